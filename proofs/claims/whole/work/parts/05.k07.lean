theorem hd_X11_readFirst : (yX11_readFirst).cls = RX11 ∧ (yX11_readFirst).cls ≠ "java/lang/invoke/MethodHandle" ∧ (yX11_readFirst).cls ≠ "java/lang/invoke/VarHandle" ∧ (parseMethodDescriptor (yX11_readFirst).desc).map (fun d => d.parameters.length) = some 2 := by decide +kernel
theorem hd_X11_readNew : (yX11_readNew).cls = RX11 ∧ (yX11_readNew).cls ≠ "java/lang/invoke/MethodHandle" ∧ (yX11_readNew).cls ≠ "java/lang/invoke/VarHandle" ∧ (parseMethodDescriptor (yX11_readNew).desc).map (fun d => d.parameters.length) = some 1 := by decide +kernel
theorem hd_X11_readNumber : (yX11_readNumber).cls = RX11 ∧ (yX11_readNumber).cls ≠ "java/lang/invoke/MethodHandle" ∧ (yX11_readNumber).cls ≠ "java/lang/invoke/VarHandle" ∧ (parseMethodDescriptor (yX11_readNumber).desc).map (fun d => d.parameters.length) = some 2 := by decide +kernel
theorem hd_X11_put : (yX11_put).cls = RX11 ∧ (yX11_put).cls ≠ "java/lang/invoke/MethodHandle" ∧ (yX11_put).cls ≠ "java/lang/invoke/VarHandle" ∧ (parseMethodDescriptor (yX11_put).desc).map (fun d => d.parameters.length) = some 2 := by decide +kernel
theorem dX11_readBand_0 : decode cX11_readBand 0 = .ok (.aload_n 0, 1) := by decide +kernel
theorem dX11_readBand_1 : decode cX11_readBand 1 = .ok (.iconst 0, 1) := by decide +kernel
theorem dX11_readBand_2 : decode cX11_readBand 2 = .ok (.bipush 6, 2) := by decide +kernel
theorem dX11_readBand_4 : decode cX11_readBand 4 = .ok (.invokevirtual 168, 3) := by decide +kernel
theorem dX11_readBand_7 : decode cX11_readBand 7 = .ok (.ifCond .ne 5, 3) := by decide +kernel
theorem dX11_readBand_10 : decode cX11_readBand 10 = .ok (.iconst 0, 1) := by decide +kernel
theorem dX11_readBand_11 : decode cX11_readBand 11 = .ok (.ireturn, 1) := by decide +kernel
theorem dX11_readBand_12 : decode cX11_readBand 12 = .ok (.aload_n 0, 1) := by decide +kernel
theorem dX11_readBand_13 : decode cX11_readBand 13 = .ok (.getfield 101, 3) := by decide +kernel
theorem dX11_readBand_16 : decode cX11_readBand 16 = .ok (.iconst 0, 1) := by decide +kernel
theorem dX11_readBand_17 : decode cX11_readBand 17 = .ok (.iaload, 1) := by decide +kernel
theorem dX11_readBand_18 : decode cX11_readBand 18 = .ok (.istore_n 1, 1) := by decide +kernel
theorem dX11_readBand_19 : decode cX11_readBand 19 = .ok (.aload_n 0, 1) := by decide +kernel
theorem dX11_readBand_20 : decode cX11_readBand 20 = .ok (.iload_n 1, 1) := by decide +kernel
theorem dX11_readBand_21 : decode cX11_readBand 21 = .ok (.invokevirtual 172, 3) := by decide +kernel
theorem dX11_readBand_24 : decode cX11_readBand 24 = .ok (.ifCond .eq 38, 3) := by decide +kernel
theorem dX11_readBand_27 : decode cX11_readBand 27 = .ok (.aload_n 0, 1) := by decide +kernel
theorem dX11_readBand_28 : decode cX11_readBand 28 = .ok (.iconst 5, 1) := by decide +kernel
theorem dX11_readBand_29 : decode cX11_readBand 29 = .ok (.iload_n 1, 1) := by decide +kernel
theorem dX11_readBand_30 : decode cX11_readBand 30 = .ok (.iadd, 1) := by decide +kernel
theorem dX11_readBand_31 : decode cX11_readBand 31 = .ok (.aload_n 0, 1) := by decide +kernel
theorem dX11_readBand_32 : decode cX11_readBand 32 = .ok (.iconst 1, 1) := by decide +kernel
theorem dX11_readBand_33 : decode cX11_readBand 33 = .ok (.bipush 9, 2) := by decide +kernel
theorem dX11_readBand_35 : decode cX11_readBand 35 = .ok (.invokevirtual 175, 3) := by decide +kernel
theorem dX11_readBand_38 : decode cX11_readBand 38 = .ok (.invokevirtual 178, 3) := by decide +kernel
theorem dX11_readBand_41 : decode cX11_readBand 41 = .ok (.ifCond .eq 21, 3) := by decide +kernel
theorem dX11_readBand_44 : decode cX11_readBand 44 = .ok (.aload_n 0, 1) := by decide +kernel
theorem dX11_readBand_45 : decode cX11_readBand 45 = .ok (.bipush 11, 2) := by decide +kernel
theorem dX11_readBand_47 : decode cX11_readBand 47 = .ok (.iload_n 1, 1) := by decide +kernel
theorem dX11_readBand_48 : decode cX11_readBand 48 = .ok (.iadd, 1) := by decide +kernel
theorem dX11_readBand_49 : decode cX11_readBand 49 = .ok (.aload_n 0, 1) := by decide +kernel
theorem dX11_readBand_50 : decode cX11_readBand 50 = .ok (.iconst 2, 1) := by decide +kernel
theorem dX11_readBand_51 : decode cX11_readBand 51 = .ok (.bipush 12, 2) := by decide +kernel
theorem dX11_readBand_53 : decode cX11_readBand 53 = .ok (.invokevirtual 175, 3) := by decide +kernel
theorem dX11_readBand_56 : decode cX11_readBand 56 = .ok (.invokevirtual 178, 3) := by decide +kernel
theorem dX11_readBand_59 : decode cX11_readBand 59 = .ok (.ifCond .ne 5, 3) := by decide +kernel
theorem dX11_readBand_62 : decode cX11_readBand 62 = .ok (.iconst 0, 1) := by decide +kernel
theorem dX11_readBand_63 : decode cX11_readBand 63 = .ok (.ireturn, 1) := by decide +kernel
theorem dX11_readBand_64 : decode cX11_readBand 64 = .ok (.aload_n 0, 1) := by decide +kernel
theorem dX11_readBand_65 : decode cX11_readBand 65 = .ok (.getfield 101, 3) := by decide +kernel
theorem dX11_readBand_68 : decode cX11_readBand 68 = .ok (.iconst 0, 1) := by decide +kernel
theorem dX11_readBand_69 : decode cX11_readBand 69 = .ok (.dup2, 1) := by decide +kernel
theorem dX11_readBand_70 : decode cX11_readBand 70 = .ok (.iaload, 1) := by decide +kernel
theorem dX11_readBand_71 : decode cX11_readBand 71 = .ok (.iconst 1, 1) := by decide +kernel
theorem dX11_readBand_72 : decode cX11_readBand 72 = .ok (.iadd, 1) := by decide +kernel
theorem dX11_readBand_73 : decode cX11_readBand 73 = .ok (.iastore, 1) := by decide +kernel
theorem dX11_readBand_74 : decode cX11_readBand 74 = .ok (.iconst 1, 1) := by decide +kernel
theorem dX11_readBand_75 : decode cX11_readBand 75 = .ok (.ireturn, 1) := by decide +kernel
def fX11_readBand (N : Nat) (v0 : Nat) (M : Mem) : Option (Int32 × Mem) := (if mK M v0 = 12 then ((fX11_readFirst N v0 0 6 M).bind fun (x4, M4) => (if x4 = 0 then some (0, M4) else ((fR M4 11 v0 15).bind fun x13 => ((aI M4 x13 0).bind fun x17 => (if mK M4 v0 = 12 then ((fX11_readNew N v0 x17 M4).bind fun (x21, M21) => (if x21 = 0 then some (0, M21) else (if mK M21 v0 = 12 then ((fX11_readNumber N v0 1 9 M21).bind fun (x35, M35) => (if mK M35 v0 = 12 then ((fX11_put N v0 (5 + x17) x35 M35).bind fun (x38, M38) => (if x38 = 0 then some (0, M38) else (if mK M38 v0 = 12 then ((fX11_readNumber N v0 2 12 M38).bind fun (x53, M53) => (if mK M53 v0 = 12 then ((fX11_put N v0 (11 + x17) x53 M53).bind fun (x56, M56) => (if x56 = 0 then some (0, M56) else ((fR M56 11 v0 15).bind fun x65 => ((aI M56 x65 0).bind fun x70 => ((tI M56 x65 0 (x70 + 1)).bind fun M73 => some (1, M73)))))) else none)) else none))) else none)) else none))) else none))))) else none)
set_option maxHeartbeats 4000000 in
set_option maxRecDepth 100000 in
theorem k_X11_readBand (l : Launch) (b : Nat) (D : va_G) (cy : Nat → ClassId) (N : Nat) (v0 : Nat) (M : Mem) (r : Int32) (Mf : Mem) (h : fX11_readBand N v0 M = some (r, Mf)) : Ct l yX11_readBand cX11_readBand 2 (some .boolean) 5 0 0 b D cy [.ref (b + v0)] M (some (.int r)) Mf := by
  refine Ct_of (own := RX11) (by decide) rfl (Nat.le_of_ble_eq_true rfl) ?_
  intro p e s m args below meth c F hr hl hmn
  unfold fX11_readBand at h
  show X p l e ({ frames := 5, cells := 0, slots := 0, locals := 100 * 5 }) s m args below meth c (MQ below (Qm b D cy (some (.int r)) Mf) args s 0 0 (fun q => b ≤ q)) 2 b D cy 0 0 M 0 [(0, .ref (b + v0))] []
  refine x_aload_n F dX11_readBand_0 rfl 0 rfl ?_
  refine x_iconst F (v := 0) dX11_readBand_1 (by decide) ?_
  refine x_bipush F (v := 6) dX11_readBand_2 (by decide) ?_
  obtain ⟨k4, h⟩ := gdS h
  obtain ⟨⟨x4, M4⟩, c4, h⟩ := bdS h
  dsimp only at h
  refine x_callV F (As := [.int 0, .int 6]) (rest := []) (res := (some (.int x4))) (ci := 11) (q := (RX11, TX11, 45)) rfl (by decide) k4 (k_X11_readFirst l b D cy N v0 0 6 M _ _ c4) wl_949 wl_950 wl_951 wl_854 wl_947 hd_X11_readFirst ⟨Nat.le_of_ble_eq_true rfl, Nat.le_of_ble_eq_true rfl⟩ ⟨Nat.le_refl _, Nat.le_refl _⟩ (Nat.le_of_ble_eq_true rfl) rfl dX11_readBand_4 ?_
  refine x_if_ne F (tgt := 12) dX11_readBand_7 (by decide) (fun c7 => ?_) (fun c7 => ?_)
  · rw [if_neg c7] at h
    refine x_aload_n F dX11_readBand_12 rfl 0 rfl ?_
    obtain ⟨x13, c13, h⟩ := bdS h
    refine x_getR F (ci := 11) (C := RX11) (T := TX11) (N := 45) rfl ⟨by decide, rfl⟩ inU11 15 (by decide) (fun _ _ _ => rfl) wl_915 c13 dX11_readBand_13 ?_
    refine x_iconst F (v := 0) dX11_readBand_16 (by decide) ?_
    obtain ⟨x17, c17, h⟩ := bdS h
    refine x_aI F c17 dX11_readBand_17 ?_
    refine x_istore_n F (lv' := [(1, .int x17), (0, .ref (b + v0))]) dX11_readBand_18 rfl (by decide) rfl ?_
    refine x_aload_n F dX11_readBand_19 rfl 1 rfl ?_
    refine x_iload_n F dX11_readBand_20 rfl 0 rfl ?_
    obtain ⟨k21, h⟩ := gdS h
    obtain ⟨⟨x21, M21⟩, c21, h⟩ := bdS h
    dsimp only at h
    refine x_callV F (As := [.int x17]) (rest := []) (res := (some (.int x21))) (ci := 11) (q := (RX11, TX11, 45)) rfl (by decide) k21 (k_X11_readNew l b D cy N v0 x17 M4 _ _ c21) wl_952 wl_953 wl_954 wl_854 wl_946 hd_X11_readNew ⟨Nat.le_of_ble_eq_true rfl, Nat.le_of_ble_eq_true rfl⟩ ⟨Nat.le_refl _, Nat.le_refl _⟩ (Nat.le_of_ble_eq_true rfl) rfl dX11_readBand_21 ?_
    refine x_if_eq F (tgt := 62) dX11_readBand_24 (by decide) (fun c24 => ?_) (fun c24 => ?_)
    · rw [if_pos c24] at h
      refine x_iconst F (v := 0) dX11_readBand_62 (by decide) ?_
      obtain ⟨rfl, rfl⟩ := retS h
      exact x_zret F hr hl (by decide) dX11_readBand_63
    · rw [if_neg c24] at h
      refine x_aload_n F dX11_readBand_27 rfl 1 rfl ?_
      refine x_iconst F (v := 5) dX11_readBand_28 (by decide) ?_
      refine x_iload_n F dX11_readBand_29 rfl 0 rfl ?_
      refine x_iadd F dX11_readBand_30 ?_
      refine x_aload_n F dX11_readBand_31 rfl 1 rfl ?_
      refine x_iconst F (v := 1) dX11_readBand_32 (by decide) ?_
      refine x_bipush F (v := 9) dX11_readBand_33 (by decide) ?_
      obtain ⟨k35, h⟩ := gdS h
      obtain ⟨⟨x35, M35⟩, c35, h⟩ := bdS h
      dsimp only at h
      refine x_callV F (As := [.int 1, .int 9]) (rest := [.int (5 + x17), .ref (b + v0)]) (res := (some (.int x35))) (ci := 11) (q := (RX11, TX11, 45)) rfl (by decide) k35 (k_X11_readNumber l b D cy N v0 1 9 M21 _ _ c35) wl_955 wl_956 wl_957 wl_854 wl_903 hd_X11_readNumber ⟨Nat.le_of_ble_eq_true rfl, Nat.le_of_ble_eq_true rfl⟩ ⟨Nat.le_refl _, Nat.le_refl _⟩ (Nat.le_of_ble_eq_true rfl) rfl dX11_readBand_35 ?_
      obtain ⟨k38, h⟩ := gdS h
      obtain ⟨⟨x38, M38⟩, c38, h⟩ := bdS h
      dsimp only at h
      refine x_callV F (As := [.int (5 + x17), .int x35]) (rest := []) (res := (some (.int x38))) (ci := 11) (q := (RX11, TX11, 45)) rfl (by decide) k38 (k_X11_put l b D cy N v0 (5 + x17) x35 M35 _ _ c38) wl_958 wl_959 wl_960 wl_854 wl_948 hd_X11_put ⟨Nat.le_of_ble_eq_true rfl, Nat.le_of_ble_eq_true rfl⟩ ⟨Nat.le_refl _, Nat.le_refl _⟩ (Nat.le_of_ble_eq_true rfl) rfl dX11_readBand_38 ?_
      refine x_if_eq F (tgt := 62) dX11_readBand_41 (by decide) (fun c41 => ?_) (fun c41 => ?_)
      · rw [if_pos c41] at h
        refine x_iconst F (v := 0) dX11_readBand_62 (by decide) ?_
        obtain ⟨rfl, rfl⟩ := retS h
        exact x_zret F hr hl (by decide) dX11_readBand_63
      · rw [if_neg c41] at h
        refine x_aload_n F dX11_readBand_44 rfl 1 rfl ?_
        refine x_bipush F (v := 11) dX11_readBand_45 (by decide) ?_
        refine x_iload_n F dX11_readBand_47 rfl 0 rfl ?_
        refine x_iadd F dX11_readBand_48 ?_
        refine x_aload_n F dX11_readBand_49 rfl 1 rfl ?_
        refine x_iconst F (v := 2) dX11_readBand_50 (by decide) ?_
        refine x_bipush F (v := 12) dX11_readBand_51 (by decide) ?_
        obtain ⟨k53, h⟩ := gdS h
        obtain ⟨⟨x53, M53⟩, c53, h⟩ := bdS h
        dsimp only at h
        refine x_callV F (As := [.int 2, .int 12]) (rest := [.int (11 + x17), .ref (b + v0)]) (res := (some (.int x53))) (ci := 11) (q := (RX11, TX11, 45)) rfl (by decide) k53 (k_X11_readNumber l b D cy N v0 2 12 M38 _ _ c53) wl_955 wl_956 wl_957 wl_854 wl_903 hd_X11_readNumber ⟨Nat.le_of_ble_eq_true rfl, Nat.le_of_ble_eq_true rfl⟩ ⟨Nat.le_refl _, Nat.le_refl _⟩ (Nat.le_of_ble_eq_true rfl) rfl dX11_readBand_53 ?_
        obtain ⟨k56, h⟩ := gdS h
        obtain ⟨⟨x56, M56⟩, c56, h⟩ := bdS h
        dsimp only at h
        refine x_callV F (As := [.int (11 + x17), .int x53]) (rest := []) (res := (some (.int x56))) (ci := 11) (q := (RX11, TX11, 45)) rfl (by decide) k56 (k_X11_put l b D cy N v0 (11 + x17) x53 M53 _ _ c56) wl_958 wl_959 wl_960 wl_854 wl_948 hd_X11_put ⟨Nat.le_of_ble_eq_true rfl, Nat.le_of_ble_eq_true rfl⟩ ⟨Nat.le_refl _, Nat.le_refl _⟩ (Nat.le_of_ble_eq_true rfl) rfl dX11_readBand_56 ?_
        refine x_if_ne F (tgt := 64) dX11_readBand_59 (by decide) (fun c59 => ?_) (fun c59 => ?_)
        · rw [if_neg c59] at h
          refine x_aload_n F dX11_readBand_64 rfl 1 rfl ?_
          obtain ⟨x65, c65, h⟩ := bdS h
          refine x_getR F (ci := 11) (C := RX11) (T := TX11) (N := 45) rfl ⟨by decide, rfl⟩ inU11 15 (by decide) (fun _ _ _ => rfl) wl_915 c65 dX11_readBand_65 ?_
          refine x_iconst F (v := 0) dX11_readBand_68 (by decide) ?_
          refine x_dup2 F dX11_readBand_69 rfl rfl ?_
          obtain ⟨x70, c70, h⟩ := bdS h
          refine x_aI F c70 dX11_readBand_70 ?_
          refine x_iconst F (v := 1) dX11_readBand_71 (by decide) ?_
          refine x_iadd F dX11_readBand_72 ?_
          obtain ⟨M73, c73, h⟩ := bdS h
          refine x_tI F c73 dX11_readBand_73 ?_
          refine x_iconst F (v := 1) dX11_readBand_74 (by decide) ?_
          obtain ⟨rfl, rfl⟩ := retS h
          exact x_zret F hr hl (by decide) dX11_readBand_75
        · rw [if_pos c59] at h
          refine x_iconst F (v := 0) dX11_readBand_62 (by decide) ?_
          obtain ⟨rfl, rfl⟩ := retS h
          exact x_zret F hr hl (by decide) dX11_readBand_63
  · rw [if_pos c7] at h
    refine x_iconst F (v := 0) dX11_readBand_10 (by decide) ?_
    obtain ⟨rfl, rfl⟩ := retS h
    exact x_zret F hr hl (by decide) dX11_readBand_11
theorem dX11_readTide_0 : decode cX11_readTide 0 = .ok (.aload_n 0, 1) := by decide +kernel
theorem dX11_readTide_1 : decode cX11_readTide 1 = .ok (.iconst 3, 1) := by decide +kernel
theorem dX11_readTide_2 : decode cX11_readTide 2 = .ok (.bipush 8, 2) := by decide +kernel
theorem dX11_readTide_4 : decode cX11_readTide 4 = .ok (.invokevirtual 168, 3) := by decide +kernel
theorem dX11_readTide_7 : decode cX11_readTide 7 = .ok (.ifCond .eq 26, 3) := by decide +kernel
theorem dX11_readTide_10 : decode cX11_readTide 10 = .ok (.aload_n 0, 1) := by decide +kernel
theorem dX11_readTide_11 : decode cX11_readTide 11 = .ok (.bipush 17, 2) := by decide +kernel
theorem dX11_readTide_13 : decode cX11_readTide 13 = .ok (.aload_n 0, 1) := by decide +kernel
theorem dX11_readTide_14 : decode cX11_readTide 14 = .ok (.getfield 101, 3) := by decide +kernel
theorem dX11_readTide_17 : decode cX11_readTide 17 = .ok (.iconst 3, 1) := by decide +kernel
theorem dX11_readTide_18 : decode cX11_readTide 18 = .ok (.iaload, 1) := by decide +kernel
theorem dX11_readTide_19 : decode cX11_readTide 19 = .ok (.iadd, 1) := by decide +kernel
theorem dX11_readTide_20 : decode cX11_readTide 20 = .ok (.aload_n 0, 1) := by decide +kernel
theorem dX11_readTide_21 : decode cX11_readTide 21 = .ok (.iconst 0, 1) := by decide +kernel
theorem dX11_readTide_22 : decode cX11_readTide 22 = .ok (.bipush 9, 2) := by decide +kernel
theorem dX11_readTide_24 : decode cX11_readTide 24 = .ok (.invokevirtual 175, 3) := by decide +kernel
theorem dX11_readTide_27 : decode cX11_readTide 27 = .ok (.invokevirtual 178, 3) := by decide +kernel
theorem dX11_readTide_30 : decode cX11_readTide 30 = .ok (.ifCond .ne 5, 3) := by decide +kernel
theorem dX11_readTide_33 : decode cX11_readTide 33 = .ok (.iconst 0, 1) := by decide +kernel
theorem dX11_readTide_34 : decode cX11_readTide 34 = .ok (.ireturn, 1) := by decide +kernel
theorem dX11_readTide_35 : decode cX11_readTide 35 = .ok (.aload_n 0, 1) := by decide +kernel
theorem dX11_readTide_36 : decode cX11_readTide 36 = .ok (.getfield 101, 3) := by decide +kernel
theorem dX11_readTide_39 : decode cX11_readTide 39 = .ok (.iconst 3, 1) := by decide +kernel
theorem dX11_readTide_40 : decode cX11_readTide 40 = .ok (.dup2, 1) := by decide +kernel
theorem dX11_readTide_41 : decode cX11_readTide 41 = .ok (.iaload, 1) := by decide +kernel
theorem dX11_readTide_42 : decode cX11_readTide 42 = .ok (.iconst 1, 1) := by decide +kernel
theorem dX11_readTide_43 : decode cX11_readTide 43 = .ok (.iadd, 1) := by decide +kernel
theorem dX11_readTide_44 : decode cX11_readTide 44 = .ok (.iastore, 1) := by decide +kernel
theorem dX11_readTide_45 : decode cX11_readTide 45 = .ok (.iconst 1, 1) := by decide +kernel
theorem dX11_readTide_46 : decode cX11_readTide 46 = .ok (.ireturn, 1) := by decide +kernel
def fX11_readTide (N : Nat) (v0 : Nat) (M : Mem) : Option (Int32 × Mem) := (if mK M v0 = 12 then ((fX11_readFirst N v0 3 8 M).bind fun (x4, M4) => (if x4 = 0 then some (0, M4) else ((fR M4 11 v0 15).bind fun x14 => ((aI M4 x14 3).bind fun x18 => (if mK M4 v0 = 12 then ((fX11_readNumber N v0 0 9 M4).bind fun (x24, M24) => (if mK M24 v0 = 12 then ((fX11_put N v0 (17 + x18) x24 M24).bind fun (x27, M27) => (if x27 = 0 then some (0, M27) else ((fR M27 11 v0 15).bind fun x36 => ((aI M27 x36 3).bind fun x41 => ((tI M27 x36 3 (x41 + 1)).bind fun M44 => some (1, M44)))))) else none)) else none))))) else none)
set_option maxHeartbeats 4000000 in
set_option maxRecDepth 100000 in
theorem k_X11_readTide (l : Launch) (b : Nat) (D : va_G) (cy : Nat → ClassId) (N : Nat) (v0 : Nat) (M : Mem) (r : Int32) (Mf : Mem) (h : fX11_readTide N v0 M = some (r, Mf)) : Ct l yX11_readTide cX11_readTide 1 (some .boolean) 4 0 0 b D cy [.ref (b + v0)] M (some (.int r)) Mf := by
  refine Ct_of (own := RX11) (by decide) rfl (Nat.le_of_ble_eq_true rfl) ?_
  intro p e s m args below meth c F hr hl hmn
  unfold fX11_readTide at h
  show X p l e ({ frames := 4, cells := 0, slots := 0, locals := 100 * 4 }) s m args below meth c (MQ below (Qm b D cy (some (.int r)) Mf) args s 0 0 (fun q => b ≤ q)) 1 b D cy 0 0 M 0 [(0, .ref (b + v0))] []
  refine x_aload_n F dX11_readTide_0 rfl 0 rfl ?_
  refine x_iconst F (v := 3) dX11_readTide_1 (by decide) ?_
  refine x_bipush F (v := 8) dX11_readTide_2 (by decide) ?_
  obtain ⟨k4, h⟩ := gdS h
  obtain ⟨⟨x4, M4⟩, c4, h⟩ := bdS h
  dsimp only at h
  refine x_callV F (As := [.int 3, .int 8]) (rest := []) (res := (some (.int x4))) (ci := 11) (q := (RX11, TX11, 45)) rfl (by decide) k4 (k_X11_readFirst l b D cy N v0 3 8 M _ _ c4) wl_949 wl_950 wl_951 wl_854 wl_947 hd_X11_readFirst ⟨Nat.le_of_ble_eq_true rfl, Nat.le_of_ble_eq_true rfl⟩ ⟨Nat.le_refl _, Nat.le_refl _⟩ (Nat.le_of_ble_eq_true rfl) rfl dX11_readTide_4 ?_
  refine x_if_eq F (tgt := 33) dX11_readTide_7 (by decide) (fun c7 => ?_) (fun c7 => ?_)
  · rw [if_pos c7] at h
    refine x_iconst F (v := 0) dX11_readTide_33 (by decide) ?_
    obtain ⟨rfl, rfl⟩ := retS h
    exact x_zret F hr hl (by decide) dX11_readTide_34
  · rw [if_neg c7] at h
    refine x_aload_n F dX11_readTide_10 rfl 0 rfl ?_
    refine x_bipush F (v := 17) dX11_readTide_11 (by decide) ?_
    refine x_aload_n F dX11_readTide_13 rfl 0 rfl ?_
    obtain ⟨x14, c14, h⟩ := bdS h
    refine x_getR F (ci := 11) (C := RX11) (T := TX11) (N := 45) rfl ⟨by decide, rfl⟩ inU11 15 (by decide) (fun _ _ _ => rfl) wl_915 c14 dX11_readTide_14 ?_
    refine x_iconst F (v := 3) dX11_readTide_17 (by decide) ?_
    obtain ⟨x18, c18, h⟩ := bdS h
    refine x_aI F c18 dX11_readTide_18 ?_
    refine x_iadd F dX11_readTide_19 ?_
    refine x_aload_n F dX11_readTide_20 rfl 0 rfl ?_
    refine x_iconst F (v := 0) dX11_readTide_21 (by decide) ?_
    refine x_bipush F (v := 9) dX11_readTide_22 (by decide) ?_
    obtain ⟨k24, h⟩ := gdS h
    obtain ⟨⟨x24, M24⟩, c24, h⟩ := bdS h
    dsimp only at h
    refine x_callV F (As := [.int 0, .int 9]) (rest := [.int (17 + x18), .ref (b + v0)]) (res := (some (.int x24))) (ci := 11) (q := (RX11, TX11, 45)) rfl (by decide) k24 (k_X11_readNumber l b D cy N v0 0 9 M4 _ _ c24) wl_955 wl_956 wl_957 wl_854 wl_903 hd_X11_readNumber ⟨Nat.le_of_ble_eq_true rfl, Nat.le_of_ble_eq_true rfl⟩ ⟨Nat.le_refl _, Nat.le_refl _⟩ (Nat.le_of_ble_eq_true rfl) rfl dX11_readTide_24 ?_
    obtain ⟨k27, h⟩ := gdS h
    obtain ⟨⟨x27, M27⟩, c27, h⟩ := bdS h
    dsimp only at h
    refine x_callV F (As := [.int (17 + x18), .int x24]) (rest := []) (res := (some (.int x27))) (ci := 11) (q := (RX11, TX11, 45)) rfl (by decide) k27 (k_X11_put l b D cy N v0 (17 + x18) x24 M24 _ _ c27) wl_958 wl_959 wl_960 wl_854 wl_948 hd_X11_put ⟨Nat.le_of_ble_eq_true rfl, Nat.le_of_ble_eq_true rfl⟩ ⟨Nat.le_refl _, Nat.le_refl _⟩ (Nat.le_of_ble_eq_true rfl) rfl dX11_readTide_27 ?_
    refine x_if_ne F (tgt := 35) dX11_readTide_30 (by decide) (fun c30 => ?_) (fun c30 => ?_)
    · rw [if_neg c30] at h
      refine x_aload_n F dX11_readTide_35 rfl 0 rfl ?_
      obtain ⟨x36, c36, h⟩ := bdS h
      refine x_getR F (ci := 11) (C := RX11) (T := TX11) (N := 45) rfl ⟨by decide, rfl⟩ inU11 15 (by decide) (fun _ _ _ => rfl) wl_915 c36 dX11_readTide_36 ?_
      refine x_iconst F (v := 3) dX11_readTide_39 (by decide) ?_
      refine x_dup2 F dX11_readTide_40 rfl rfl ?_
      obtain ⟨x41, c41, h⟩ := bdS h
      refine x_aI F c41 dX11_readTide_41 ?_
      refine x_iconst F (v := 1) dX11_readTide_42 (by decide) ?_
      refine x_iadd F dX11_readTide_43 ?_
      obtain ⟨M44, c44, h⟩ := bdS h
      refine x_tI F c44 dX11_readTide_44 ?_
      refine x_iconst F (v := 1) dX11_readTide_45 (by decide) ?_
      obtain ⟨rfl, rfl⟩ := retS h
      exact x_zret F hr hl (by decide) dX11_readTide_46
    · rw [if_pos c30] at h
      refine x_iconst F (v := 0) dX11_readTide_33 (by decide) ?_
      obtain ⟨rfl, rfl⟩ := retS h
      exact x_zret F hr hl (by decide) dX11_readTide_34
theorem dX11_readWriter_0 : decode cX11_readWriter 0 = .ok (.aload_n 0, 1) := by decide +kernel
theorem dX11_readWriter_1 : decode cX11_readWriter 1 = .ok (.iconst 1, 1) := by decide +kernel
theorem dX11_readWriter_2 : decode cX11_readWriter 2 = .ok (.iconst 4, 1) := by decide +kernel
theorem dX11_readWriter_3 : decode cX11_readWriter 3 = .ok (.invokevirtual 168, 3) := by decide +kernel
theorem dX11_readWriter_6 : decode cX11_readWriter 6 = .ok (.ifCond .ne 5, 3) := by decide +kernel
theorem dX11_readWriter_9 : decode cX11_readWriter 9 = .ok (.iconst 0, 1) := by decide +kernel
theorem dX11_readWriter_10 : decode cX11_readWriter 10 = .ok (.ireturn, 1) := by decide +kernel
theorem dX11_readWriter_11 : decode cX11_readWriter 11 = .ok (.aload_n 0, 1) := by decide +kernel
theorem dX11_readWriter_12 : decode cX11_readWriter 12 = .ok (.getfield 101, 3) := by decide +kernel
theorem dX11_readWriter_15 : decode cX11_readWriter 15 = .ok (.iconst 1, 1) := by decide +kernel
theorem dX11_readWriter_16 : decode cX11_readWriter 16 = .ok (.iaload, 1) := by decide +kernel
theorem dX11_readWriter_17 : decode cX11_readWriter 17 = .ok (.istore_n 1, 1) := by decide +kernel
theorem dX11_readWriter_18 : decode cX11_readWriter 18 = .ok (.aload_n 0, 1) := by decide +kernel
theorem dX11_readWriter_19 : decode cX11_readWriter 19 = .ok (.bipush 6, 2) := by decide +kernel
theorem dX11_readWriter_21 : decode cX11_readWriter 21 = .ok (.iload_n 1, 1) := by decide +kernel
theorem dX11_readWriter_22 : decode cX11_readWriter 22 = .ok (.iadd, 1) := by decide +kernel
theorem dX11_readWriter_23 : decode cX11_readWriter 23 = .ok (.invokevirtual 172, 3) := by decide +kernel
theorem dX11_readWriter_26 : decode cX11_readWriter 26 = .ok (.ifCond .eq 21, 3) := by decide +kernel
theorem dX11_readWriter_29 : decode cX11_readWriter 29 = .ok (.aload_n 0, 1) := by decide +kernel
theorem dX11_readWriter_30 : decode cX11_readWriter 30 = .ok (.bipush 25, 2) := by decide +kernel
theorem dX11_readWriter_32 : decode cX11_readWriter 32 = .ok (.iload_n 1, 1) := by decide +kernel
theorem dX11_readWriter_33 : decode cX11_readWriter 33 = .ok (.iadd, 1) := by decide +kernel
theorem dX11_readWriter_34 : decode cX11_readWriter 34 = .ok (.aload_n 0, 1) := by decide +kernel
theorem dX11_readWriter_35 : decode cX11_readWriter 35 = .ok (.iconst 1, 1) := by decide +kernel
theorem dX11_readWriter_36 : decode cX11_readWriter 36 = .ok (.bipush 9, 2) := by decide +kernel
theorem dX11_readWriter_38 : decode cX11_readWriter 38 = .ok (.invokevirtual 175, 3) := by decide +kernel
theorem dX11_readWriter_41 : decode cX11_readWriter 41 = .ok (.invokevirtual 178, 3) := by decide +kernel
theorem dX11_readWriter_44 : decode cX11_readWriter 44 = .ok (.ifCond .ne 5, 3) := by decide +kernel
theorem dX11_readWriter_47 : decode cX11_readWriter 47 = .ok (.iconst 0, 1) := by decide +kernel
theorem dX11_readWriter_48 : decode cX11_readWriter 48 = .ok (.ireturn, 1) := by decide +kernel
theorem dX11_readWriter_49 : decode cX11_readWriter 49 = .ok (.aload_n 0, 1) := by decide +kernel
theorem dX11_readWriter_50 : decode cX11_readWriter 50 = .ok (.getfield 101, 3) := by decide +kernel
theorem dX11_readWriter_53 : decode cX11_readWriter 53 = .ok (.iconst 1, 1) := by decide +kernel
theorem dX11_readWriter_54 : decode cX11_readWriter 54 = .ok (.dup2, 1) := by decide +kernel
theorem dX11_readWriter_55 : decode cX11_readWriter 55 = .ok (.iaload, 1) := by decide +kernel
theorem dX11_readWriter_56 : decode cX11_readWriter 56 = .ok (.iconst 1, 1) := by decide +kernel
theorem dX11_readWriter_57 : decode cX11_readWriter 57 = .ok (.iadd, 1) := by decide +kernel
theorem dX11_readWriter_58 : decode cX11_readWriter 58 = .ok (.iastore, 1) := by decide +kernel
theorem dX11_readWriter_59 : decode cX11_readWriter 59 = .ok (.iconst 1, 1) := by decide +kernel
theorem dX11_readWriter_60 : decode cX11_readWriter 60 = .ok (.ireturn, 1) := by decide +kernel
def fX11_readWriter (N : Nat) (v0 : Nat) (M : Mem) : Option (Int32 × Mem) := (if mK M v0 = 12 then ((fX11_readFirst N v0 1 4 M).bind fun (x3, M3) => (if x3 = 0 then some (0, M3) else ((fR M3 11 v0 15).bind fun x12 => ((aI M3 x12 1).bind fun x16 => (if mK M3 v0 = 12 then ((fX11_readNew N v0 (6 + x16) M3).bind fun (x23, M23) => (if x23 = 0 then some (0, M23) else (if mK M23 v0 = 12 then ((fX11_readNumber N v0 1 9 M23).bind fun (x38, M38) => (if mK M38 v0 = 12 then ((fX11_put N v0 (25 + x16) x38 M38).bind fun (x41, M41) => (if x41 = 0 then some (0, M41) else ((fR M41 11 v0 15).bind fun x50 => ((aI M41 x50 1).bind fun x55 => ((tI M41 x50 1 (x55 + 1)).bind fun M58 => some (1, M58)))))) else none)) else none))) else none))))) else none)
set_option maxHeartbeats 4000000 in
set_option maxRecDepth 100000 in
theorem k_X11_readWriter (l : Launch) (b : Nat) (D : va_G) (cy : Nat → ClassId) (N : Nat) (v0 : Nat) (M : Mem) (r : Int32) (Mf : Mem) (h : fX11_readWriter N v0 M = some (r, Mf)) : Ct l yX11_readWriter cX11_readWriter 2 (some .boolean) 5 0 0 b D cy [.ref (b + v0)] M (some (.int r)) Mf := by
  refine Ct_of (own := RX11) (by decide) rfl (Nat.le_of_ble_eq_true rfl) ?_
  intro p e s m args below meth c F hr hl hmn
  unfold fX11_readWriter at h
  show X p l e ({ frames := 5, cells := 0, slots := 0, locals := 100 * 5 }) s m args below meth c (MQ below (Qm b D cy (some (.int r)) Mf) args s 0 0 (fun q => b ≤ q)) 2 b D cy 0 0 M 0 [(0, .ref (b + v0))] []
  refine x_aload_n F dX11_readWriter_0 rfl 0 rfl ?_
  refine x_iconst F (v := 1) dX11_readWriter_1 (by decide) ?_
  refine x_iconst F (v := 4) dX11_readWriter_2 (by decide) ?_
  obtain ⟨k3, h⟩ := gdS h
  obtain ⟨⟨x3, M3⟩, c3, h⟩ := bdS h
  dsimp only at h
  refine x_callV F (As := [.int 1, .int 4]) (rest := []) (res := (some (.int x3))) (ci := 11) (q := (RX11, TX11, 45)) rfl (by decide) k3 (k_X11_readFirst l b D cy N v0 1 4 M _ _ c3) wl_949 wl_950 wl_951 wl_854 wl_947 hd_X11_readFirst ⟨Nat.le_of_ble_eq_true rfl, Nat.le_of_ble_eq_true rfl⟩ ⟨Nat.le_refl _, Nat.le_refl _⟩ (Nat.le_of_ble_eq_true rfl) rfl dX11_readWriter_3 ?_
  refine x_if_ne F (tgt := 11) dX11_readWriter_6 (by decide) (fun c6 => ?_) (fun c6 => ?_)
  · rw [if_neg c6] at h
    refine x_aload_n F dX11_readWriter_11 rfl 0 rfl ?_
    obtain ⟨x12, c12, h⟩ := bdS h
    refine x_getR F (ci := 11) (C := RX11) (T := TX11) (N := 45) rfl ⟨by decide, rfl⟩ inU11 15 (by decide) (fun _ _ _ => rfl) wl_915 c12 dX11_readWriter_12 ?_
    refine x_iconst F (v := 1) dX11_readWriter_15 (by decide) ?_
    obtain ⟨x16, c16, h⟩ := bdS h
    refine x_aI F c16 dX11_readWriter_16 ?_
    refine x_istore_n F (lv' := [(1, .int x16), (0, .ref (b + v0))]) dX11_readWriter_17 rfl (by decide) rfl ?_
    refine x_aload_n F dX11_readWriter_18 rfl 1 rfl ?_
    refine x_bipush F (v := 6) dX11_readWriter_19 (by decide) ?_
    refine x_iload_n F dX11_readWriter_21 rfl 0 rfl ?_
    refine x_iadd F dX11_readWriter_22 ?_
    obtain ⟨k23, h⟩ := gdS h
    obtain ⟨⟨x23, M23⟩, c23, h⟩ := bdS h
    dsimp only at h
    refine x_callV F (As := [.int (6 + x16)]) (rest := []) (res := (some (.int x23))) (ci := 11) (q := (RX11, TX11, 45)) rfl (by decide) k23 (k_X11_readNew l b D cy N v0 (6 + x16) M3 _ _ c23) wl_952 wl_953 wl_954 wl_854 wl_946 hd_X11_readNew ⟨Nat.le_of_ble_eq_true rfl, Nat.le_of_ble_eq_true rfl⟩ ⟨Nat.le_refl _, Nat.le_refl _⟩ (Nat.le_of_ble_eq_true rfl) rfl dX11_readWriter_23 ?_
    refine x_if_eq F (tgt := 47) dX11_readWriter_26 (by decide) (fun c26 => ?_) (fun c26 => ?_)
    · rw [if_pos c26] at h
      refine x_iconst F (v := 0) dX11_readWriter_47 (by decide) ?_
      obtain ⟨rfl, rfl⟩ := retS h
      exact x_zret F hr hl (by decide) dX11_readWriter_48
    · rw [if_neg c26] at h
      refine x_aload_n F dX11_readWriter_29 rfl 1 rfl ?_
      refine x_bipush F (v := 25) dX11_readWriter_30 (by decide) ?_
      refine x_iload_n F dX11_readWriter_32 rfl 0 rfl ?_
      refine x_iadd F dX11_readWriter_33 ?_
      refine x_aload_n F dX11_readWriter_34 rfl 1 rfl ?_
      refine x_iconst F (v := 1) dX11_readWriter_35 (by decide) ?_
      refine x_bipush F (v := 9) dX11_readWriter_36 (by decide) ?_
      obtain ⟨k38, h⟩ := gdS h
      obtain ⟨⟨x38, M38⟩, c38, h⟩ := bdS h
      dsimp only at h
      refine x_callV F (As := [.int 1, .int 9]) (rest := [.int (25 + x16), .ref (b + v0)]) (res := (some (.int x38))) (ci := 11) (q := (RX11, TX11, 45)) rfl (by decide) k38 (k_X11_readNumber l b D cy N v0 1 9 M23 _ _ c38) wl_955 wl_956 wl_957 wl_854 wl_903 hd_X11_readNumber ⟨Nat.le_of_ble_eq_true rfl, Nat.le_of_ble_eq_true rfl⟩ ⟨Nat.le_refl _, Nat.le_refl _⟩ (Nat.le_of_ble_eq_true rfl) rfl dX11_readWriter_38 ?_
      obtain ⟨k41, h⟩ := gdS h
      obtain ⟨⟨x41, M41⟩, c41, h⟩ := bdS h
      dsimp only at h
      refine x_callV F (As := [.int (25 + x16), .int x38]) (rest := []) (res := (some (.int x41))) (ci := 11) (q := (RX11, TX11, 45)) rfl (by decide) k41 (k_X11_put l b D cy N v0 (25 + x16) x38 M38 _ _ c41) wl_958 wl_959 wl_960 wl_854 wl_948 hd_X11_put ⟨Nat.le_of_ble_eq_true rfl, Nat.le_of_ble_eq_true rfl⟩ ⟨Nat.le_refl _, Nat.le_refl _⟩ (Nat.le_of_ble_eq_true rfl) rfl dX11_readWriter_41 ?_
      refine x_if_ne F (tgt := 49) dX11_readWriter_44 (by decide) (fun c44 => ?_) (fun c44 => ?_)
      · rw [if_neg c44] at h
        refine x_aload_n F dX11_readWriter_49 rfl 1 rfl ?_
        obtain ⟨x50, c50, h⟩ := bdS h
        refine x_getR F (ci := 11) (C := RX11) (T := TX11) (N := 45) rfl ⟨by decide, rfl⟩ inU11 15 (by decide) (fun _ _ _ => rfl) wl_915 c50 dX11_readWriter_50 ?_
        refine x_iconst F (v := 1) dX11_readWriter_53 (by decide) ?_
        refine x_dup2 F dX11_readWriter_54 rfl rfl ?_
        obtain ⟨x55, c55, h⟩ := bdS h
        refine x_aI F c55 dX11_readWriter_55 ?_
        refine x_iconst F (v := 1) dX11_readWriter_56 (by decide) ?_
        refine x_iadd F dX11_readWriter_57 ?_
        obtain ⟨M58, c58, h⟩ := bdS h
        refine x_tI F c58 dX11_readWriter_58 ?_
        refine x_iconst F (v := 1) dX11_readWriter_59 (by decide) ?_
        obtain ⟨rfl, rfl⟩ := retS h
        exact x_zret F hr hl (by decide) dX11_readWriter_60
      · rw [if_pos c44] at h
        refine x_iconst F (v := 0) dX11_readWriter_47 (by decide) ?_
        obtain ⟨rfl, rfl⟩ := retS h
        exact x_zret F hr hl (by decide) dX11_readWriter_48
  · rw [if_pos c6] at h
    refine x_iconst F (v := 0) dX11_readWriter_9 (by decide) ?_
    obtain ⟨rfl, rfl⟩ := retS h
    exact x_zret F hr hl (by decide) dX11_readWriter_10
theorem dX11_readLaw_0 : decode cX11_readLaw 0 = .ok (.aload_n 0, 1) := by decide +kernel
theorem dX11_readLaw_1 : decode cX11_readLaw 1 = .ok (.iconst 2, 1) := by decide +kernel
theorem dX11_readLaw_2 : decode cX11_readLaw 2 = .ok (.bipush 6, 2) := by decide +kernel
theorem dX11_readLaw_4 : decode cX11_readLaw 4 = .ok (.invokevirtual 168, 3) := by decide +kernel
theorem dX11_readLaw_7 : decode cX11_readLaw 7 = .ok (.ifCond .ne 5, 3) := by decide +kernel
theorem dX11_readLaw_10 : decode cX11_readLaw 10 = .ok (.iconst 0, 1) := by decide +kernel
theorem dX11_readLaw_11 : decode cX11_readLaw 11 = .ok (.ireturn, 1) := by decide +kernel
theorem dX11_readLaw_12 : decode cX11_readLaw 12 = .ok (.aload_n 0, 1) := by decide +kernel
theorem dX11_readLaw_13 : decode cX11_readLaw 13 = .ok (.getfield 101, 3) := by decide +kernel
theorem dX11_readLaw_16 : decode cX11_readLaw 16 = .ok (.iconst 2, 1) := by decide +kernel
theorem dX11_readLaw_17 : decode cX11_readLaw 17 = .ok (.iaload, 1) := by decide +kernel
theorem dX11_readLaw_18 : decode cX11_readLaw 18 = .ok (.istore_n 1, 1) := by decide +kernel
theorem dX11_readLaw_19 : decode cX11_readLaw 19 = .ok (.aload_n 0, 1) := by decide +kernel
theorem dX11_readLaw_20 : decode cX11_readLaw 20 = .ok (.bipush 10, 2) := by decide +kernel
theorem dX11_readLaw_22 : decode cX11_readLaw 22 = .ok (.iload_n 1, 1) := by decide +kernel
theorem dX11_readLaw_23 : decode cX11_readLaw 23 = .ok (.iadd, 1) := by decide +kernel
theorem dX11_readLaw_24 : decode cX11_readLaw 24 = .ok (.invokevirtual 172, 3) := by decide +kernel
theorem dX11_readLaw_27 : decode cX11_readLaw 27 = .ok (.ifCond .ne 5, 3) := by decide +kernel
theorem dX11_readLaw_30 : decode cX11_readLaw 30 = .ok (.iconst 0, 1) := by decide +kernel
theorem dX11_readLaw_31 : decode cX11_readLaw 31 = .ok (.ireturn, 1) := by decide +kernel
theorem dX11_readLaw_32 : decode cX11_readLaw 32 = .ok (.aload_n 0, 1) := by decide +kernel
theorem dX11_readLaw_33 : decode cX11_readLaw 33 = .ok (.getfield 30, 3) := by decide +kernel
theorem dX11_readLaw_36 : decode cX11_readLaw 36 = .ok (.iconst 3, 1) := by decide +kernel
theorem dX11_readLaw_37 : decode cX11_readLaw 37 = .ok (.if_icmp .eq 9, 3) := by decide +kernel
theorem dX11_readLaw_40 : decode cX11_readLaw 40 = .ok (.aload_n 0, 1) := by decide +kernel
theorem dX11_readLaw_41 : decode cX11_readLaw 41 = .ok (.iconst 1, 1) := by decide +kernel
theorem dX11_readLaw_42 : decode cX11_readLaw 42 = .ok (.invokevirtual 72, 3) := by decide +kernel
theorem dX11_readLaw_45 : decode cX11_readLaw 45 = .ok (.ireturn, 1) := by decide +kernel
theorem dX11_readLaw_46 : decode cX11_readLaw 46 = .ok (.aload_n 0, 1) := by decide +kernel
theorem dX11_readLaw_47 : decode cX11_readLaw 47 = .ok (.getfield 47, 3) := by decide +kernel
theorem dX11_readLaw_50 : decode cX11_readLaw 50 = .ok (.bipush 10, 2) := by decide +kernel
theorem dX11_readLaw_52 : decode cX11_readLaw 52 = .ok (.sipush 999, 3) := by decide +kernel
theorem dX11_readLaw_55 : decode cX11_readLaw 55 = .ok (.invokestatic 75, 3) := by decide +kernel
theorem dX11_readLaw_58 : decode cX11_readLaw 58 = .ok (.ifCond .ne 9, 3) := by decide +kernel
theorem dX11_readLaw_61 : decode cX11_readLaw 61 = .ok (.aload_n 0, 1) := by decide +kernel
theorem dX11_readLaw_62 : decode cX11_readLaw 62 = .ok (.iconst 2, 1) := by decide +kernel
theorem dX11_readLaw_63 : decode cX11_readLaw 63 = .ok (.invokevirtual 72, 3) := by decide +kernel
theorem dX11_readLaw_66 : decode cX11_readLaw 66 = .ok (.ireturn, 1) := by decide +kernel
theorem dX11_readLaw_67 : decode cX11_readLaw 67 = .ok (.iconst 0, 1) := by decide +kernel
theorem dX11_readLaw_68 : decode cX11_readLaw 68 = .ok (.istore_n 2, 1) := by decide +kernel
theorem dX11_readLaw_69 : decode cX11_readLaw 69 = .ok (.iload_n 2, 1) := by decide +kernel
theorem dX11_readLaw_70 : decode cX11_readLaw 70 = .ok (.iload_n 1, 1) := by decide +kernel
theorem dX11_readLaw_71 : decode cX11_readLaw 71 = .ok (.if_icmp .ge 31, 3) := by decide +kernel
theorem dX11_readLaw_74 : decode cX11_readLaw 74 = .ok (.aload_n 0, 1) := by decide +kernel
theorem dX11_readLaw_75 : decode cX11_readLaw 75 = .ok (.getfield 101, 3) := by decide +kernel
theorem dX11_readLaw_78 : decode cX11_readLaw 78 = .ok (.bipush 29, 2) := by decide +kernel
theorem dX11_readLaw_80 : decode cX11_readLaw 80 = .ok (.iload_n 2, 1) := by decide +kernel
theorem dX11_readLaw_81 : decode cX11_readLaw 81 = .ok (.iadd, 1) := by decide +kernel
theorem dX11_readLaw_82 : decode cX11_readLaw 82 = .ok (.iaload, 1) := by decide +kernel
theorem dX11_readLaw_83 : decode cX11_readLaw 83 = .ok (.aload_n 0, 1) := by decide +kernel
theorem dX11_readLaw_84 : decode cX11_readLaw 84 = .ok (.getfield 47, 3) := by decide +kernel
theorem dX11_readLaw_87 : decode cX11_readLaw 87 = .ok (.if_icmp .ne 9, 3) := by decide +kernel
theorem dX11_readLaw_90 : decode cX11_readLaw 90 = .ok (.aload_n 0, 1) := by decide +kernel
theorem dX11_readLaw_91 : decode cX11_readLaw 91 = .ok (.iconst 3, 1) := by decide +kernel
theorem dX11_readLaw_92 : decode cX11_readLaw 92 = .ok (.invokevirtual 72, 3) := by decide +kernel
theorem dX11_readLaw_95 : decode cX11_readLaw 95 = .ok (.ireturn, 1) := by decide +kernel
theorem dX11_readLaw_96 : decode cX11_readLaw 96 = .ok (.iinc 2 1, 3) := by decide +kernel
theorem dX11_readLaw_99 : decode cX11_readLaw 99 = .ok (.goto (-30), 3) := by decide +kernel
theorem dX11_readLaw_102 : decode cX11_readLaw 102 = .ok (.aload_n 0, 1) := by decide +kernel
theorem dX11_readLaw_103 : decode cX11_readLaw 103 = .ok (.getfield 101, 3) := by decide +kernel
theorem dX11_readLaw_106 : decode cX11_readLaw 106 = .ok (.bipush 29, 2) := by decide +kernel
theorem dX11_readLaw_108 : decode cX11_readLaw 108 = .ok (.iload_n 1, 1) := by decide +kernel
theorem dX11_readLaw_109 : decode cX11_readLaw 109 = .ok (.iadd, 1) := by decide +kernel
theorem dX11_readLaw_110 : decode cX11_readLaw 110 = .ok (.aload_n 0, 1) := by decide +kernel
theorem dX11_readLaw_111 : decode cX11_readLaw 111 = .ok (.getfield 47, 3) := by decide +kernel
theorem dX11_readLaw_114 : decode cX11_readLaw 114 = .ok (.iastore, 1) := by decide +kernel
theorem dX11_readLaw_115 : decode cX11_readLaw 115 = .ok (.aload_n 0, 1) := by decide +kernel
theorem dX11_readLaw_116 : decode cX11_readLaw 116 = .ok (.getfield 101, 3) := by decide +kernel
theorem dX11_readLaw_119 : decode cX11_readLaw 119 = .ok (.iconst 2, 1) := by decide +kernel
theorem dX11_readLaw_120 : decode cX11_readLaw 120 = .ok (.dup2, 1) := by decide +kernel
theorem dX11_readLaw_121 : decode cX11_readLaw 121 = .ok (.iaload, 1) := by decide +kernel
theorem dX11_readLaw_122 : decode cX11_readLaw 122 = .ok (.iconst 1, 1) := by decide +kernel
theorem dX11_readLaw_123 : decode cX11_readLaw 123 = .ok (.iadd, 1) := by decide +kernel
theorem dX11_readLaw_124 : decode cX11_readLaw 124 = .ok (.iastore, 1) := by decide +kernel
theorem dX11_readLaw_125 : decode cX11_readLaw 125 = .ok (.aload_n 0, 1) := by decide +kernel
theorem dX11_readLaw_126 : decode cX11_readLaw 126 = .ok (.invokevirtual 82, 3) := by decide +kernel
theorem dX11_readLaw_129 : decode cX11_readLaw 129 = .ok (.iconst 1, 1) := by decide +kernel
theorem dX11_readLaw_130 : decode cX11_readLaw 130 = .ok (.ireturn, 1) := by decide +kernel
def fX11_readLaw_L69 (N : Nat) (v0 : Nat) (v1 : Int32) : Nat → Int32 → Mem → Option ((Mem) ⊕ (Int32 × Mem))
  | 0, _, _ => none
  | n + 1, v2, M => (if v1 ≤ v2 then some (.inl M) else ((fR M 11 v0 15).bind fun x75 => ((aI M x75 (29 + v2)).bind fun x82 => ((fI M 11 v0 8).bind fun x84 => (if x82 = x84 then (if mK M v0 = 12 then ((fX11_bad N v0 3 M).bind fun (x92, M92) => (if vp_nar .boolean x92 = x92 then some (.inr (x92, M92)) else none)) else none) else fX11_readLaw_L69 N v0 v1 n (v2 + 1) M)))))
def fX11_readLaw (N : Nat) (v0 : Nat) (M : Mem) : Option (Int32 × Mem) := (if mK M v0 = 12 then ((fX11_readFirst N v0 2 6 M).bind fun (x4, M4) => (if x4 = 0 then some (0, M4) else ((fR M4 11 v0 15).bind fun x13 => ((aI M4 x13 2).bind fun x17 => (if mK M4 v0 = 12 then ((fX11_readNew N v0 (10 + x17) M4).bind fun (x24, M24) => (if x24 = 0 then some (0, M24) else ((fI M24 11 v0 7).bind fun x33 => (if x33 = 3 then ((fI M24 11 v0 8).bind fun x47 => ((fX11_isIn N x47 10 999 M24).bind fun (x55, M55) => (if x55 = 0 then (if mK M55 v0 = 12 then ((fX11_bad N v0 2 M55).bind fun (x63, M63) => (if vp_nar .boolean x63 = x63 then some (x63, M63) else none)) else none) else ((fX11_readLaw_L69 N v0 x17 N 0 M55).bind fun o69 => match o69 with | .inl M69 => ((fR M69 11 v0 15).bind fun x103 => ((fI M69 11 v0 8).bind fun x111 => ((tI M69 x103 (29 + x17) x111).bind fun M114 => ((fR M114 11 v0 15).bind fun x116 => ((aI M114 x116 2).bind fun x121 => ((tI M114 x116 2 (x121 + 1)).bind fun M124 => (if mK M124 v0 = 12 then ((fX11_go N v0 M124).bind fun (u126, M126) => some (1, M126)) else none))))))) | .inr z => some z)))) else (if mK M24 v0 = 12 then ((fX11_bad N v0 1 M24).bind fun (x42, M42) => (if vp_nar .boolean x42 = x42 then some (x42, M42) else none)) else none))))) else none))))) else none)
set_option maxHeartbeats 4000000 in
set_option maxRecDepth 100000 in
theorem k_X11_readLaw (l : Launch) (b : Nat) (D : va_G) (cy : Nat → ClassId) (N : Nat) (v0 : Nat) (M : Mem) (r : Int32) (Mf : Mem) (h : fX11_readLaw N v0 M = some (r, Mf)) : Ct l yX11_readLaw cX11_readLaw 3 (some .boolean) 5 0 0 b D cy [.ref (b + v0)] M (some (.int r)) Mf := by
  refine Ct_of (own := RX11) (by decide) rfl (Nat.le_of_ble_eq_true rfl) ?_
  intro p e s m args below meth c F hr hl hmn
  unfold fX11_readLaw at h
  show X p l e ({ frames := 5, cells := 0, slots := 0, locals := 100 * 5 }) s m args below meth c (MQ below (Qm b D cy (some (.int r)) Mf) args s 0 0 (fun q => b ≤ q)) 3 b D cy 0 0 M 0 [(0, .ref (b + v0))] []
  refine x_aload_n F dX11_readLaw_0 rfl 0 rfl ?_
  refine x_iconst F (v := 2) dX11_readLaw_1 (by decide) ?_
  refine x_bipush F (v := 6) dX11_readLaw_2 (by decide) ?_
  obtain ⟨k4, h⟩ := gdS h
  obtain ⟨⟨x4, M4⟩, c4, h⟩ := bdS h
  dsimp only at h
  refine x_callV F (As := [.int 2, .int 6]) (rest := []) (res := (some (.int x4))) (ci := 11) (q := (RX11, TX11, 45)) rfl (by decide) k4 (k_X11_readFirst l b D cy N v0 2 6 M _ _ c4) wl_949 wl_950 wl_951 wl_854 wl_947 hd_X11_readFirst ⟨Nat.le_of_ble_eq_true rfl, Nat.le_of_ble_eq_true rfl⟩ ⟨Nat.le_refl _, Nat.le_refl _⟩ (Nat.le_of_ble_eq_true rfl) rfl dX11_readLaw_4 ?_
  refine x_if_ne F (tgt := 12) dX11_readLaw_7 (by decide) (fun c7 => ?_) (fun c7 => ?_)
  · rw [if_neg c7] at h
    refine x_aload_n F dX11_readLaw_12 rfl 0 rfl ?_
    obtain ⟨x13, c13, h⟩ := bdS h
    refine x_getR F (ci := 11) (C := RX11) (T := TX11) (N := 45) rfl ⟨by decide, rfl⟩ inU11 15 (by decide) (fun _ _ _ => rfl) wl_915 c13 dX11_readLaw_13 ?_
    refine x_iconst F (v := 2) dX11_readLaw_16 (by decide) ?_
    obtain ⟨x17, c17, h⟩ := bdS h
    refine x_aI F c17 dX11_readLaw_17 ?_
    refine x_istore_n F (lv' := [(1, .int x17), (0, .ref (b + v0))]) dX11_readLaw_18 rfl (by decide) rfl ?_
    refine x_aload_n F dX11_readLaw_19 rfl 1 rfl ?_
    refine x_bipush F (v := 10) dX11_readLaw_20 (by decide) ?_
    refine x_iload_n F dX11_readLaw_22 rfl 0 rfl ?_
    refine x_iadd F dX11_readLaw_23 ?_
    obtain ⟨k24, h⟩ := gdS h
    obtain ⟨⟨x24, M24⟩, c24, h⟩ := bdS h
    dsimp only at h
    refine x_callV F (As := [.int (10 + x17)]) (rest := []) (res := (some (.int x24))) (ci := 11) (q := (RX11, TX11, 45)) rfl (by decide) k24 (k_X11_readNew l b D cy N v0 (10 + x17) M4 _ _ c24) wl_952 wl_953 wl_954 wl_854 wl_946 hd_X11_readNew ⟨Nat.le_of_ble_eq_true rfl, Nat.le_of_ble_eq_true rfl⟩ ⟨Nat.le_refl _, Nat.le_refl _⟩ (Nat.le_of_ble_eq_true rfl) rfl dX11_readLaw_24 ?_
    refine x_if_ne F (tgt := 32) dX11_readLaw_27 (by decide) (fun c27 => ?_) (fun c27 => ?_)
    · rw [if_neg c27] at h
      refine x_aload_n F dX11_readLaw_32 rfl 1 rfl ?_
      obtain ⟨x33, c33, h⟩ := bdS h
      refine x_getI F (ci := 11) (C := RX11) (T := TX11) (N := 45) rfl ⟨by decide, rfl⟩ inU11 7 (by decide) (fun _ _ _ => rfl) wl_869 c33 dX11_readLaw_33 ?_
      refine x_iconst F (v := 3) dX11_readLaw_36 (by decide) ?_
      refine x_icmp_eq F (tgt := 46) dX11_readLaw_37 (by decide) (fun c37 => ?_) (fun c37 => ?_)
      · rw [if_pos c37] at h
        refine x_aload_n F dX11_readLaw_46 rfl 1 rfl ?_
        obtain ⟨x47, c47, h⟩ := bdS h
        refine x_getI F (ci := 11) (C := RX11) (T := TX11) (N := 45) rfl ⟨by decide, rfl⟩ inU11 8 (by decide) (fun _ _ _ => rfl) wl_872 c47 dX11_readLaw_47 ?_
        refine x_bipush F (v := 10) dX11_readLaw_50 (by decide) ?_
        refine x_sipush F (v := 999) dX11_readLaw_52 (by decide) ?_
        obtain ⟨⟨x55, M55⟩, c55, h⟩ := bdS h
        dsimp only at h
        refine x_callS F (As := [.int x47, .int 10, .int 999]) (rest := []) (res := (some (.int x55))) (k_X11_isIn l b D cy N x47 10 999 M24 _ _ c55) wl_898 wl_899 wl_854 wl_857 (hd_X11_isIn).2 ⟨Nat.le_of_ble_eq_true rfl, Nat.le_of_ble_eq_true rfl⟩ ⟨Nat.le_refl _, Nat.le_refl _⟩ (Nat.le_of_ble_eq_true rfl) rfl dX11_readLaw_55 ?_
        refine x_if_ne F (tgt := 67) dX11_readLaw_58 (by decide) (fun c58 => ?_) (fun c58 => ?_)
        · rw [if_neg c58] at h
          refine x_iconst F (v := 0) dX11_readLaw_67 (by decide) ?_
          refine x_istore_n F (lv' := [(2, .int 0), (1, .int x17), (0, .ref (b + v0))]) dX11_readLaw_68 rfl (by decide) rfl ?_
          have L69 : ∀ (v0 : Nat) (v1 : Int32) (n : Nat) (v2 : Int32) (M : Mem) (o : (Mem) ⊕ (Int32 × Mem)), fX11_readLaw_L69 N v0 v1 n v2 M = some o → (∀ (M' : Mem), o = .inl M' → X p l e ({ frames := 5, cells := 0, slots := 0, locals := 100 * 5 }) s m args below meth c (MQ below (Qm b D cy (some (.int r)) Mf) args s 0 0 (fun q => b ≤ q)) 3 b D cy 0 0 M' 102 [(0, .ref (b + v0)), (1, .int v1)] []) → (∀ (r' : Int32) (M' : Mem), o = Sum.inr (r', M') → r' = r ∧ M' = Mf) → X p l e ({ frames := 5, cells := 0, slots := 0, locals := 100 * 5 }) s m args below meth c (MQ below (Qm b D cy (some (.int r)) Mf) args s 0 0 (fun q => b ≤ q)) 3 b D cy 0 0 M 69 [(0, .ref (b + v0)), (1, .int v1), (2, .int v2)] [] := by
            intro v0 v1 n
            induction n with
            | zero => intro v2 M o h; exact absurd h (by rw [fX11_readLaw_L69]; exact fun z => by cases z)
            | succ n ih =>
              intro v2 M o h hE hR
              rw [fX11_readLaw_L69] at h
              refine x_iload_n F dX11_readLaw_69 rfl 2 rfl ?_
              refine x_iload_n F dX11_readLaw_70 rfl 1 rfl ?_
              refine x_icmp_ge F (tgt := 102) dX11_readLaw_71 (by decide) (fun c71 => ?_) (fun c71 => ?_)
              · rw [if_pos c71] at h
                obtain rfl := Option.some.inj h
                refine x_sub [0, 1] rfl ?_
                exact hE _ rfl
              · rw [if_neg c71] at h
                refine x_aload_n F dX11_readLaw_74 rfl 0 rfl ?_
                obtain ⟨x75, c75, h⟩ := bdS h
                refine x_getR F (ci := 11) (C := RX11) (T := TX11) (N := 45) rfl ⟨by decide, rfl⟩ inU11 15 (by decide) (fun _ _ _ => rfl) wl_915 c75 dX11_readLaw_75 ?_
                refine x_bipush F (v := 29) dX11_readLaw_78 (by decide) ?_
                refine x_iload_n F dX11_readLaw_80 rfl 2 rfl ?_
                refine x_iadd F dX11_readLaw_81 ?_
                obtain ⟨x82, c82, h⟩ := bdS h
                refine x_aI F c82 dX11_readLaw_82 ?_
                refine x_aload_n F dX11_readLaw_83 rfl 0 rfl ?_
                obtain ⟨x84, c84, h⟩ := bdS h
                refine x_getI F (ci := 11) (C := RX11) (T := TX11) (N := 45) rfl ⟨by decide, rfl⟩ inU11 8 (by decide) (fun _ _ _ => rfl) wl_872 c84 dX11_readLaw_84 ?_
                refine x_icmp_ne F (tgt := 96) dX11_readLaw_87 (by decide) (fun c87 => ?_) (fun c87 => ?_)
                · rw [if_neg c87] at h
                  refine x_iinc F (v := v2 + 1) (lv' := [(2, .int (v2 + 1)), (0, .ref (b + v0)), (1, .int v1)]) dX11_readLaw_96 2 rfl rfl (by decide) rfl ?_
                  refine x_goto F (tgt := 69) dX11_readLaw_99 (by decide) ?_
                  refine x_sub [1, 2, 0] rfl ?_
                  exact ih (v2 + 1) M o h hE hR
                · rw [if_pos c87] at h
                  refine x_aload_n F dX11_readLaw_90 rfl 0 rfl ?_
                  refine x_iconst F (v := 3) dX11_readLaw_91 (by decide) ?_
                  obtain ⟨k92, h⟩ := gdS h
                  obtain ⟨⟨x92, M92⟩, c92, h⟩ := bdS h
                  dsimp only at h
                  refine x_callV F (As := [.int 3]) (rest := []) (res := (some (.int x92))) (ci := 11) (q := (RX11, TX11, 45)) rfl (by decide) k92 (k_X11_bad l b D cy N v0 3 M _ _ c92) wl_895 wl_896 wl_897 wl_854 wl_891 hd_X11_bad ⟨Nat.le_of_ble_eq_true rfl, Nat.le_of_ble_eq_true rfl⟩ ⟨Nat.le_refl _, Nat.le_refl _⟩ (Nat.le_of_ble_eq_true rfl) rfl dX11_readLaw_92 ?_
                  obtain ⟨c95, h⟩ := gdS h
                  obtain rfl := Option.some.inj h
                  obtain ⟨rfl, rfl⟩ := hR _ _ rfl
                  exact x_zret F hr hl c95 dX11_readLaw_95
          obtain ⟨o69, h69, h⟩ := bdS h
          refine x_sub [2, 1, 0] rfl ?_
          refine L69 v0 x17 N 0 M55 o69 h69 (fun M69 e => ?_) (fun r' M' e => ?_)
          · subst e
            dsimp only at h
            refine x_aload_n F dX11_readLaw_102 rfl 0 rfl ?_
            obtain ⟨x103, c103, h⟩ := bdS h
            refine x_getR F (ci := 11) (C := RX11) (T := TX11) (N := 45) rfl ⟨by decide, rfl⟩ inU11 15 (by decide) (fun _ _ _ => rfl) wl_915 c103 dX11_readLaw_103 ?_
            refine x_bipush F (v := 29) dX11_readLaw_106 (by decide) ?_
            refine x_iload_n F dX11_readLaw_108 rfl 1 rfl ?_
            refine x_iadd F dX11_readLaw_109 ?_
            refine x_aload_n F dX11_readLaw_110 rfl 0 rfl ?_
            obtain ⟨x111, c111, h⟩ := bdS h
            refine x_getI F (ci := 11) (C := RX11) (T := TX11) (N := 45) rfl ⟨by decide, rfl⟩ inU11 8 (by decide) (fun _ _ _ => rfl) wl_872 c111 dX11_readLaw_111 ?_
            obtain ⟨M114, c114, h⟩ := bdS h
            refine x_tI F c114 dX11_readLaw_114 ?_
            refine x_aload_n F dX11_readLaw_115 rfl 0 rfl ?_
            obtain ⟨x116, c116, h⟩ := bdS h
            refine x_getR F (ci := 11) (C := RX11) (T := TX11) (N := 45) rfl ⟨by decide, rfl⟩ inU11 15 (by decide) (fun _ _ _ => rfl) wl_915 c116 dX11_readLaw_116 ?_
            refine x_iconst F (v := 2) dX11_readLaw_119 (by decide) ?_
            refine x_dup2 F dX11_readLaw_120 rfl rfl ?_
            obtain ⟨x121, c121, h⟩ := bdS h
            refine x_aI F c121 dX11_readLaw_121 ?_
            refine x_iconst F (v := 1) dX11_readLaw_122 (by decide) ?_
            refine x_iadd F dX11_readLaw_123 ?_
            obtain ⟨M124, c124, h⟩ := bdS h
            refine x_tI F c124 dX11_readLaw_124 ?_
            refine x_aload_n F dX11_readLaw_125 rfl 0 rfl ?_
            obtain ⟨k126, h⟩ := gdS h
            obtain ⟨⟨u126, M126⟩, c126, h⟩ := bdS h
            dsimp only at h
            refine x_callV F (As := []) (rest := []) (res := none) (ci := 11) (q := (RX11, TX11, 45)) rfl (by decide) k126 (k_X11_go l b D cy N v0 M124 _ _ c126) wl_900 wl_901 wl_902 wl_854 wl_865 hd_X11_go ⟨Nat.le_of_ble_eq_true rfl, Nat.le_of_ble_eq_true rfl⟩ ⟨Nat.le_refl _, Nat.le_refl _⟩ (Nat.le_of_ble_eq_true rfl) rfl dX11_readLaw_126 ?_
            refine x_iconst F (v := 1) dX11_readLaw_129 (by decide) ?_
            obtain ⟨rfl, rfl⟩ := retS h
            exact x_zret F hr hl (by decide) dX11_readLaw_130
          · subst e
            try dsimp only at h
            obtain ⟨rfl, rfl⟩ := retS h; exact ⟨rfl, rfl⟩
        · rw [if_pos c58] at h
          refine x_aload_n F dX11_readLaw_61 rfl 1 rfl ?_
          refine x_iconst F (v := 2) dX11_readLaw_62 (by decide) ?_
          obtain ⟨k63, h⟩ := gdS h
          obtain ⟨⟨x63, M63⟩, c63, h⟩ := bdS h
          dsimp only at h
          refine x_callV F (As := [.int 2]) (rest := []) (res := (some (.int x63))) (ci := 11) (q := (RX11, TX11, 45)) rfl (by decide) k63 (k_X11_bad l b D cy N v0 2 M55 _ _ c63) wl_895 wl_896 wl_897 wl_854 wl_891 hd_X11_bad ⟨Nat.le_of_ble_eq_true rfl, Nat.le_of_ble_eq_true rfl⟩ ⟨Nat.le_refl _, Nat.le_refl _⟩ (Nat.le_of_ble_eq_true rfl) rfl dX11_readLaw_63 ?_
          obtain ⟨c66, h⟩ := gdS h
          obtain ⟨rfl, rfl⟩ := retS h
          exact x_zret F hr hl c66 dX11_readLaw_66
      · rw [if_neg c37] at h
        refine x_aload_n F dX11_readLaw_40 rfl 1 rfl ?_
        refine x_iconst F (v := 1) dX11_readLaw_41 (by decide) ?_
        obtain ⟨k42, h⟩ := gdS h
        obtain ⟨⟨x42, M42⟩, c42, h⟩ := bdS h
        dsimp only at h
        refine x_callV F (As := [.int 1]) (rest := []) (res := (some (.int x42))) (ci := 11) (q := (RX11, TX11, 45)) rfl (by decide) k42 (k_X11_bad l b D cy N v0 1 M24 _ _ c42) wl_895 wl_896 wl_897 wl_854 wl_891 hd_X11_bad ⟨Nat.le_of_ble_eq_true rfl, Nat.le_of_ble_eq_true rfl⟩ ⟨Nat.le_refl _, Nat.le_refl _⟩ (Nat.le_of_ble_eq_true rfl) rfl dX11_readLaw_42 ?_
        obtain ⟨c45, h⟩ := gdS h
        obtain ⟨rfl, rfl⟩ := retS h
        exact x_zret F hr hl c45 dX11_readLaw_45
    · rw [if_pos c27] at h
      refine x_iconst F (v := 0) dX11_readLaw_30 (by decide) ?_
      obtain ⟨rfl, rfl⟩ := retS h
      exact x_zret F hr hl (by decide) dX11_readLaw_31
  · rw [if_pos c7] at h
    refine x_iconst F (v := 0) dX11_readLaw_10 (by decide) ?_
    obtain ⟨rfl, rfl⟩ := retS h
    exact x_zret F hr hl (by decide) dX11_readLaw_11
theorem dX11_readLapse_0 : decode cX11_readLapse 0 = .ok (.aload_n 0, 1) := by decide +kernel
theorem dX11_readLapse_1 : decode cX11_readLapse 1 = .ok (.getfield 182, 3) := by decide +kernel
theorem dX11_readLapse_4 : decode cX11_readLapse 4 = .ok (.ifCond .eq 9, 3) := by decide +kernel
theorem dX11_readLapse_7 : decode cX11_readLapse 7 = .ok (.aload_n 0, 1) := by decide +kernel
theorem dX11_readLapse_8 : decode cX11_readLapse 8 = .ok (.iconst 3, 1) := by decide +kernel
theorem dX11_readLapse_9 : decode cX11_readLapse 9 = .ok (.invokevirtual 72, 3) := by decide +kernel
theorem dX11_readLapse_12 : decode cX11_readLapse 12 = .ok (.ireturn, 1) := by decide +kernel
theorem dX11_readLapse_13 : decode cX11_readLapse 13 = .ok (.aload_n 0, 1) := by decide +kernel
theorem dX11_readLapse_14 : decode cX11_readLapse 14 = .ok (.iconst 1, 1) := by decide +kernel
theorem dX11_readLapse_15 : decode cX11_readLapse 15 = .ok (.putfield 182, 3) := by decide +kernel
theorem dX11_readLapse_18 : decode cX11_readLapse 18 = .ok (.aload_n 0, 1) := by decide +kernel
theorem dX11_readLapse_19 : decode cX11_readLapse 19 = .ok (.invokevirtual 82, 3) := by decide +kernel
theorem dX11_readLapse_22 : decode cX11_readLapse 22 = .ok (.aload_n 0, 1) := by decide +kernel
theorem dX11_readLapse_23 : decode cX11_readLapse 23 = .ok (.iconst 4, 1) := by decide +kernel
theorem dX11_readLapse_24 : decode cX11_readLapse 24 = .ok (.aload_n 0, 1) := by decide +kernel
theorem dX11_readLapse_25 : decode cX11_readLapse 25 = .ok (.iconst 1, 1) := by decide +kernel
theorem dX11_readLapse_26 : decode cX11_readLapse 26 = .ok (.bipush 30, 2) := by decide +kernel
theorem dX11_readLapse_28 : decode cX11_readLapse 28 = .ok (.invokevirtual 175, 3) := by decide +kernel
theorem dX11_readLapse_31 : decode cX11_readLapse 31 = .ok (.invokevirtual 178, 3) := by decide +kernel
theorem dX11_readLapse_34 : decode cX11_readLapse 34 = .ok (.ireturn, 1) := by decide +kernel
def fX11_readLapse (N : Nat) (v0 : Nat) (M : Mem) : Option (Int32 × Mem) := ((fI M 11 v0 23).bind fun x1 => (if x1 = 0 then ((pZ M 11 v0 23 1).bind fun M15 => (if mK M15 v0 = 12 then ((fX11_go N v0 M15).bind fun (u19, M19) => (if mK M19 v0 = 12 then ((fX11_readNumber N v0 1 30 M19).bind fun (x28, M28) => (if mK M28 v0 = 12 then ((fX11_put N v0 4 x28 M28).bind fun (x31, M31) => (if vp_nar .boolean x31 = x31 then some (x31, M31) else none)) else none)) else none)) else none)) else (if mK M v0 = 12 then ((fX11_bad N v0 3 M).bind fun (x9, M9) => (if vp_nar .boolean x9 = x9 then some (x9, M9) else none)) else none)))
set_option maxHeartbeats 4000000 in
set_option maxRecDepth 100000 in
theorem k_X11_readLapse (l : Launch) (b : Nat) (D : va_G) (cy : Nat → ClassId) (N : Nat) (v0 : Nat) (M : Mem) (r : Int32) (Mf : Mem) (h : fX11_readLapse N v0 M = some (r, Mf)) : Ct l yX11_readLapse cX11_readLapse 1 (some .boolean) 4 0 0 b D cy [.ref (b + v0)] M (some (.int r)) Mf := by
  refine Ct_of (own := RX11) (by decide) rfl (Nat.le_of_ble_eq_true rfl) ?_
  intro p e s m args below meth c F hr hl hmn
  unfold fX11_readLapse at h
  show X p l e ({ frames := 4, cells := 0, slots := 0, locals := 100 * 4 }) s m args below meth c (MQ below (Qm b D cy (some (.int r)) Mf) args s 0 0 (fun q => b ≤ q)) 1 b D cy 0 0 M 0 [(0, .ref (b + v0))] []
  refine x_aload_n F dX11_readLapse_0 rfl 0 rfl ?_
  obtain ⟨x1, c1, h⟩ := bdS h
  refine x_getI F (ci := 11) (C := RX11) (T := TX11) (N := 45) rfl ⟨by decide, rfl⟩ inU11 23 (by decide) (fun _ _ _ => rfl) wl_965 c1 dX11_readLapse_1 ?_
  refine x_if_eq F (tgt := 13) dX11_readLapse_4 (by decide) (fun c4 => ?_) (fun c4 => ?_)
  · rw [if_pos c4] at h
    refine x_aload_n F dX11_readLapse_13 rfl 0 rfl ?_
    refine x_iconst F (v := 1) dX11_readLapse_14 (by decide) ?_
    obtain ⟨M15, c15, h⟩ := bdS h
    refine x_putZ F (ci := 11) (C := RX11) (T := TX11) (N := 45) rfl ⟨by decide, rfl⟩ inU11 tyX11_ok nmX11 23 (by decide) rfl rfl wl_965 c15 dX11_readLapse_15 ?_
    refine x_aload_n F dX11_readLapse_18 rfl 0 rfl ?_
    obtain ⟨k19, h⟩ := gdS h
    obtain ⟨⟨u19, M19⟩, c19, h⟩ := bdS h
    dsimp only at h
    refine x_callV F (As := []) (rest := []) (res := none) (ci := 11) (q := (RX11, TX11, 45)) rfl (by decide) k19 (k_X11_go l b D cy N v0 M15 _ _ c19) wl_900 wl_901 wl_902 wl_854 wl_865 hd_X11_go ⟨Nat.le_of_ble_eq_true rfl, Nat.le_of_ble_eq_true rfl⟩ ⟨Nat.le_refl _, Nat.le_refl _⟩ (Nat.le_of_ble_eq_true rfl) rfl dX11_readLapse_19 ?_
    refine x_aload_n F dX11_readLapse_22 rfl 0 rfl ?_
    refine x_iconst F (v := 4) dX11_readLapse_23 (by decide) ?_
    refine x_aload_n F dX11_readLapse_24 rfl 0 rfl ?_
    refine x_iconst F (v := 1) dX11_readLapse_25 (by decide) ?_
    refine x_bipush F (v := 30) dX11_readLapse_26 (by decide) ?_
    obtain ⟨k28, h⟩ := gdS h
    obtain ⟨⟨x28, M28⟩, c28, h⟩ := bdS h
    dsimp only at h
    refine x_callV F (As := [.int 1, .int 30]) (rest := [.int 4, .ref (b + v0)]) (res := (some (.int x28))) (ci := 11) (q := (RX11, TX11, 45)) rfl (by decide) k28 (k_X11_readNumber l b D cy N v0 1 30 M19 _ _ c28) wl_955 wl_956 wl_957 wl_854 wl_903 hd_X11_readNumber ⟨Nat.le_of_ble_eq_true rfl, Nat.le_of_ble_eq_true rfl⟩ ⟨Nat.le_refl _, Nat.le_refl _⟩ (Nat.le_of_ble_eq_true rfl) rfl dX11_readLapse_28 ?_
    obtain ⟨k31, h⟩ := gdS h
    obtain ⟨⟨x31, M31⟩, c31, h⟩ := bdS h
    dsimp only at h
    refine x_callV F (As := [.int 4, .int x28]) (rest := []) (res := (some (.int x31))) (ci := 11) (q := (RX11, TX11, 45)) rfl (by decide) k31 (k_X11_put l b D cy N v0 4 x28 M28 _ _ c31) wl_958 wl_959 wl_960 wl_854 wl_948 hd_X11_put ⟨Nat.le_of_ble_eq_true rfl, Nat.le_of_ble_eq_true rfl⟩ ⟨Nat.le_refl _, Nat.le_refl _⟩ (Nat.le_of_ble_eq_true rfl) rfl dX11_readLapse_31 ?_
    obtain ⟨c34, h⟩ := gdS h
    obtain ⟨rfl, rfl⟩ := retS h
    exact x_zret F hr hl c34 dX11_readLapse_34
  · rw [if_neg c4] at h
    refine x_aload_n F dX11_readLapse_7 rfl 0 rfl ?_
    refine x_iconst F (v := 3) dX11_readLapse_8 (by decide) ?_
    obtain ⟨k9, h⟩ := gdS h
    obtain ⟨⟨x9, M9⟩, c9, h⟩ := bdS h
    dsimp only at h
    refine x_callV F (As := [.int 3]) (rest := []) (res := (some (.int x9))) (ci := 11) (q := (RX11, TX11, 45)) rfl (by decide) k9 (k_X11_bad l b D cy N v0 3 M _ _ c9) wl_895 wl_896 wl_897 wl_854 wl_891 hd_X11_bad ⟨Nat.le_of_ble_eq_true rfl, Nat.le_of_ble_eq_true rfl⟩ ⟨Nat.le_refl _, Nat.le_refl _⟩ (Nat.le_of_ble_eq_true rfl) rfl dX11_readLapse_9 ?_
    obtain ⟨c12, h⟩ := gdS h
    obtain ⟨rfl, rfl⟩ := retS h
    exact x_zret F hr hl c12 dX11_readLapse_12
theorem hd_X11_isWord : (yX11_isWord).cls = RX11 ∧ (yX11_isWord).cls ≠ "java/lang/invoke/MethodHandle" ∧ (yX11_isWord).cls ≠ "java/lang/invoke/VarHandle" ∧ (parseMethodDescriptor (yX11_isWord).desc).map (fun d => d.parameters.length) = some 1 := by decide +kernel
theorem hd_X11_readLapse : (yX11_readLapse).cls = RX11 ∧ (yX11_readLapse).cls ≠ "java/lang/invoke/MethodHandle" ∧ (yX11_readLapse).cls ≠ "java/lang/invoke/VarHandle" ∧ (parseMethodDescriptor (yX11_readLapse).desc).map (fun d => d.parameters.length) = some 0 := by decide +kernel
theorem hd_X11_readLaw : (yX11_readLaw).cls = RX11 ∧ (yX11_readLaw).cls ≠ "java/lang/invoke/MethodHandle" ∧ (yX11_readLaw).cls ≠ "java/lang/invoke/VarHandle" ∧ (parseMethodDescriptor (yX11_readLaw).desc).map (fun d => d.parameters.length) = some 0 := by decide +kernel
theorem hd_X11_readWriter : (yX11_readWriter).cls = RX11 ∧ (yX11_readWriter).cls ≠ "java/lang/invoke/MethodHandle" ∧ (yX11_readWriter).cls ≠ "java/lang/invoke/VarHandle" ∧ (parseMethodDescriptor (yX11_readWriter).desc).map (fun d => d.parameters.length) = some 0 := by decide +kernel
theorem hd_X11_readTide : (yX11_readTide).cls = RX11 ∧ (yX11_readTide).cls ≠ "java/lang/invoke/MethodHandle" ∧ (yX11_readTide).cls ≠ "java/lang/invoke/VarHandle" ∧ (parseMethodDescriptor (yX11_readTide).desc).map (fun d => d.parameters.length) = some 0 := by decide +kernel
theorem hd_X11_readBand : (yX11_readBand).cls = RX11 ∧ (yX11_readBand).cls ≠ "java/lang/invoke/MethodHandle" ∧ (yX11_readBand).cls ≠ "java/lang/invoke/VarHandle" ∧ (parseMethodDescriptor (yX11_readBand).desc).map (fun d => d.parameters.length) = some 0 := by decide +kernel
theorem dX11_readLine_0 : decode cX11_readLine 0 = .ok (.aload_n 0, 1) := by decide +kernel
theorem dX11_readLine_1 : decode cX11_readLine 1 = .ok (.iconst 0, 1) := by decide +kernel
theorem dX11_readLine_2 : decode cX11_readLine 2 = .ok (.invokevirtual 186, 3) := by decide +kernel
theorem dX11_readLine_5 : decode cX11_readLine 5 = .ok (.ifCond .eq 8, 3) := by decide +kernel
theorem dX11_readLine_8 : decode cX11_readLine 8 = .ok (.aload_n 0, 1) := by decide +kernel
theorem dX11_readLine_9 : decode cX11_readLine 9 = .ok (.invokevirtual 189, 3) := by decide +kernel
theorem dX11_readLine_12 : decode cX11_readLine 12 = .ok (.ireturn, 1) := by decide +kernel
theorem dX11_readLine_13 : decode cX11_readLine 13 = .ok (.aload_n 0, 1) := by decide +kernel
theorem dX11_readLine_14 : decode cX11_readLine 14 = .ok (.iconst 1, 1) := by decide +kernel
theorem dX11_readLine_15 : decode cX11_readLine 15 = .ok (.invokevirtual 186, 3) := by decide +kernel
theorem dX11_readLine_18 : decode cX11_readLine 18 = .ok (.ifCond .eq 8, 3) := by decide +kernel
theorem dX11_readLine_21 : decode cX11_readLine 21 = .ok (.aload_n 0, 1) := by decide +kernel
theorem dX11_readLine_22 : decode cX11_readLine 22 = .ok (.invokevirtual 192, 3) := by decide +kernel
theorem dX11_readLine_25 : decode cX11_readLine 25 = .ok (.ireturn, 1) := by decide +kernel
theorem dX11_readLine_26 : decode cX11_readLine 26 = .ok (.aload_n 0, 1) := by decide +kernel
theorem dX11_readLine_27 : decode cX11_readLine 27 = .ok (.iconst 2, 1) := by decide +kernel
theorem dX11_readLine_28 : decode cX11_readLine 28 = .ok (.invokevirtual 186, 3) := by decide +kernel
theorem dX11_readLine_31 : decode cX11_readLine 31 = .ok (.ifCond .eq 8, 3) := by decide +kernel
theorem dX11_readLine_34 : decode cX11_readLine 34 = .ok (.aload_n 0, 1) := by decide +kernel
theorem dX11_readLine_35 : decode cX11_readLine 35 = .ok (.invokevirtual 195, 3) := by decide +kernel
theorem dX11_readLine_38 : decode cX11_readLine 38 = .ok (.ireturn, 1) := by decide +kernel
theorem dX11_readLine_39 : decode cX11_readLine 39 = .ok (.aload_n 0, 1) := by decide +kernel
theorem dX11_readLine_40 : decode cX11_readLine 40 = .ok (.iconst 3, 1) := by decide +kernel
theorem dX11_readLine_41 : decode cX11_readLine 41 = .ok (.invokevirtual 186, 3) := by decide +kernel
theorem dX11_readLine_44 : decode cX11_readLine 44 = .ok (.ifCond .eq 8, 3) := by decide +kernel
theorem dX11_readLine_47 : decode cX11_readLine 47 = .ok (.aload_n 0, 1) := by decide +kernel
theorem dX11_readLine_48 : decode cX11_readLine 48 = .ok (.invokevirtual 198, 3) := by decide +kernel
theorem dX11_readLine_51 : decode cX11_readLine 51 = .ok (.ireturn, 1) := by decide +kernel
theorem dX11_readLine_52 : decode cX11_readLine 52 = .ok (.aload_n 0, 1) := by decide +kernel
theorem dX11_readLine_53 : decode cX11_readLine 53 = .ok (.iconst 4, 1) := by decide +kernel
theorem dX11_readLine_54 : decode cX11_readLine 54 = .ok (.invokevirtual 186, 3) := by decide +kernel
theorem dX11_readLine_57 : decode cX11_readLine 57 = .ok (.ifCond .eq 10, 3) := by decide +kernel
theorem dX11_readLine_60 : decode cX11_readLine 60 = .ok (.aload_n 0, 1) := by decide +kernel
theorem dX11_readLine_61 : decode cX11_readLine 61 = .ok (.invokevirtual 201, 3) := by decide +kernel
theorem dX11_readLine_64 : decode cX11_readLine 64 = .ok (.goto 8, 3) := by decide +kernel
theorem dX11_readLine_67 : decode cX11_readLine 67 = .ok (.aload_n 0, 1) := by decide +kernel
theorem dX11_readLine_68 : decode cX11_readLine 68 = .ok (.iconst 1, 1) := by decide +kernel
theorem dX11_readLine_69 : decode cX11_readLine 69 = .ok (.invokevirtual 72, 3) := by decide +kernel
theorem dX11_readLine_72 : decode cX11_readLine 72 = .ok (.ireturn, 1) := by decide +kernel
def fX11_readLine (N : Nat) (v0 : Nat) (M : Mem) : Option (Int32 × Mem) := (if mK M v0 = 12 then ((fX11_isWord N v0 0 M).bind fun (x2, M2) => (if x2 = 0 then (if mK M2 v0 = 12 then ((fX11_isWord N v0 1 M2).bind fun (x15, M15) => (if x15 = 0 then (if mK M15 v0 = 12 then ((fX11_isWord N v0 2 M15).bind fun (x28, M28) => (if x28 = 0 then (if mK M28 v0 = 12 then ((fX11_isWord N v0 3 M28).bind fun (x41, M41) => (if x41 = 0 then (if mK M41 v0 = 12 then ((fX11_isWord N v0 4 M41).bind fun (x54, M54) => (if x54 = 0 then (if mK M54 v0 = 12 then ((fX11_bad N v0 1 M54).bind fun (x69, M69) => (if vp_nar .boolean x69 = x69 then some (x69, M69) else none)) else none) else (if mK M54 v0 = 12 then ((fX11_readLapse N v0 M54).bind fun (x61, M61) => (if vp_nar .boolean x61 = x61 then some (x61, M61) else none)) else none))) else none) else (if mK M41 v0 = 12 then ((fX11_readLaw N v0 M41).bind fun (x48, M48) => (if vp_nar .boolean x48 = x48 then some (x48, M48) else none)) else none))) else none) else (if mK M28 v0 = 12 then ((fX11_readWriter N v0 M28).bind fun (x35, M35) => (if vp_nar .boolean x35 = x35 then some (x35, M35) else none)) else none))) else none) else (if mK M15 v0 = 12 then ((fX11_readTide N v0 M15).bind fun (x22, M22) => (if vp_nar .boolean x22 = x22 then some (x22, M22) else none)) else none))) else none) else (if mK M2 v0 = 12 then ((fX11_readBand N v0 M2).bind fun (x9, M9) => (if vp_nar .boolean x9 = x9 then some (x9, M9) else none)) else none))) else none)
set_option maxHeartbeats 4000000 in
set_option maxRecDepth 100000 in
theorem k_X11_readLine (l : Launch) (b : Nat) (D : va_G) (cy : Nat → ClassId) (N : Nat) (v0 : Nat) (M : Mem) (r : Int32) (Mf : Mem) (h : fX11_readLine N v0 M = some (r, Mf)) : Ct l yX11_readLine cX11_readLine 1 (some .boolean) 6 0 0 b D cy [.ref (b + v0)] M (some (.int r)) Mf := by
  refine Ct_of (own := RX11) (by decide) rfl (Nat.le_of_ble_eq_true rfl) ?_
  intro p e s m args below meth c F hr hl hmn
  unfold fX11_readLine at h
  show X p l e ({ frames := 6, cells := 0, slots := 0, locals := 100 * 6 }) s m args below meth c (MQ below (Qm b D cy (some (.int r)) Mf) args s 0 0 (fun q => b ≤ q)) 1 b D cy 0 0 M 0 [(0, .ref (b + v0))] []
  refine x_aload_n F dX11_readLine_0 rfl 0 rfl ?_
  refine x_iconst F (v := 0) dX11_readLine_1 (by decide) ?_
  obtain ⟨k2, h⟩ := gdS h
  obtain ⟨⟨x2, M2⟩, c2, h⟩ := bdS h
  dsimp only at h
  refine x_callV F (As := [.int 0]) (rest := []) (res := (some (.int x2))) (ci := 11) (q := (RX11, TX11, 45)) rfl (by decide) k2 (k_X11_isWord l b D cy N v0 0 M _ _ c2) wl_967 wl_968 wl_969 wl_854 wl_886 hd_X11_isWord ⟨Nat.le_of_ble_eq_true rfl, Nat.le_of_ble_eq_true rfl⟩ ⟨Nat.le_refl _, Nat.le_refl _⟩ (Nat.le_of_ble_eq_true rfl) rfl dX11_readLine_2 ?_
  refine x_if_eq F (tgt := 13) dX11_readLine_5 (by decide) (fun c5 => ?_) (fun c5 => ?_)
  · rw [if_pos c5] at h
    refine x_aload_n F dX11_readLine_13 rfl 0 rfl ?_
    refine x_iconst F (v := 1) dX11_readLine_14 (by decide) ?_
    obtain ⟨k15, h⟩ := gdS h
    obtain ⟨⟨x15, M15⟩, c15, h⟩ := bdS h
    dsimp only at h
    refine x_callV F (As := [.int 1]) (rest := []) (res := (some (.int x15))) (ci := 11) (q := (RX11, TX11, 45)) rfl (by decide) k15 (k_X11_isWord l b D cy N v0 1 M2 _ _ c15) wl_967 wl_968 wl_969 wl_854 wl_886 hd_X11_isWord ⟨Nat.le_of_ble_eq_true rfl, Nat.le_of_ble_eq_true rfl⟩ ⟨Nat.le_refl _, Nat.le_refl _⟩ (Nat.le_of_ble_eq_true rfl) rfl dX11_readLine_15 ?_
    refine x_if_eq F (tgt := 26) dX11_readLine_18 (by decide) (fun c18 => ?_) (fun c18 => ?_)
    · rw [if_pos c18] at h
      refine x_aload_n F dX11_readLine_26 rfl 0 rfl ?_
      refine x_iconst F (v := 2) dX11_readLine_27 (by decide) ?_
      obtain ⟨k28, h⟩ := gdS h
      obtain ⟨⟨x28, M28⟩, c28, h⟩ := bdS h
      dsimp only at h
      refine x_callV F (As := [.int 2]) (rest := []) (res := (some (.int x28))) (ci := 11) (q := (RX11, TX11, 45)) rfl (by decide) k28 (k_X11_isWord l b D cy N v0 2 M15 _ _ c28) wl_967 wl_968 wl_969 wl_854 wl_886 hd_X11_isWord ⟨Nat.le_of_ble_eq_true rfl, Nat.le_of_ble_eq_true rfl⟩ ⟨Nat.le_refl _, Nat.le_refl _⟩ (Nat.le_of_ble_eq_true rfl) rfl dX11_readLine_28 ?_
      refine x_if_eq F (tgt := 39) dX11_readLine_31 (by decide) (fun c31 => ?_) (fun c31 => ?_)
      · rw [if_pos c31] at h
        refine x_aload_n F dX11_readLine_39 rfl 0 rfl ?_
        refine x_iconst F (v := 3) dX11_readLine_40 (by decide) ?_
        obtain ⟨k41, h⟩ := gdS h
        obtain ⟨⟨x41, M41⟩, c41, h⟩ := bdS h
        dsimp only at h
        refine x_callV F (As := [.int 3]) (rest := []) (res := (some (.int x41))) (ci := 11) (q := (RX11, TX11, 45)) rfl (by decide) k41 (k_X11_isWord l b D cy N v0 3 M28 _ _ c41) wl_967 wl_968 wl_969 wl_854 wl_886 hd_X11_isWord ⟨Nat.le_of_ble_eq_true rfl, Nat.le_of_ble_eq_true rfl⟩ ⟨Nat.le_refl _, Nat.le_refl _⟩ (Nat.le_of_ble_eq_true rfl) rfl dX11_readLine_41 ?_
        refine x_if_eq F (tgt := 52) dX11_readLine_44 (by decide) (fun c44 => ?_) (fun c44 => ?_)
        · rw [if_pos c44] at h
          refine x_aload_n F dX11_readLine_52 rfl 0 rfl ?_
          refine x_iconst F (v := 4) dX11_readLine_53 (by decide) ?_
          obtain ⟨k54, h⟩ := gdS h
          obtain ⟨⟨x54, M54⟩, c54, h⟩ := bdS h
          dsimp only at h
          refine x_callV F (As := [.int 4]) (rest := []) (res := (some (.int x54))) (ci := 11) (q := (RX11, TX11, 45)) rfl (by decide) k54 (k_X11_isWord l b D cy N v0 4 M41 _ _ c54) wl_967 wl_968 wl_969 wl_854 wl_886 hd_X11_isWord ⟨Nat.le_of_ble_eq_true rfl, Nat.le_of_ble_eq_true rfl⟩ ⟨Nat.le_refl _, Nat.le_refl _⟩ (Nat.le_of_ble_eq_true rfl) rfl dX11_readLine_54 ?_
          refine x_if_eq F (tgt := 67) dX11_readLine_57 (by decide) (fun c57 => ?_) (fun c57 => ?_)
          · rw [if_pos c57] at h
            refine x_aload_n F dX11_readLine_67 rfl 0 rfl ?_
            refine x_iconst F (v := 1) dX11_readLine_68 (by decide) ?_
            obtain ⟨k69, h⟩ := gdS h
            obtain ⟨⟨x69, M69⟩, c69, h⟩ := bdS h
            dsimp only at h
            refine x_callV F (As := [.int 1]) (rest := []) (res := (some (.int x69))) (ci := 11) (q := (RX11, TX11, 45)) rfl (by decide) k69 (k_X11_bad l b D cy N v0 1 M54 _ _ c69) wl_895 wl_896 wl_897 wl_854 wl_891 hd_X11_bad ⟨Nat.le_of_ble_eq_true rfl, Nat.le_of_ble_eq_true rfl⟩ ⟨Nat.le_refl _, Nat.le_refl _⟩ (Nat.le_of_ble_eq_true rfl) rfl dX11_readLine_69 ?_
            obtain ⟨c72, h⟩ := gdS h
            obtain ⟨rfl, rfl⟩ := retS h
            exact x_zret F hr hl c72 dX11_readLine_72
          · rw [if_neg c57] at h
            refine x_aload_n F dX11_readLine_60 rfl 0 rfl ?_
            obtain ⟨k61, h⟩ := gdS h
            obtain ⟨⟨x61, M61⟩, c61, h⟩ := bdS h
            dsimp only at h
            refine x_callV F (As := []) (rest := []) (res := (some (.int x61))) (ci := 11) (q := (RX11, TX11, 45)) rfl (by decide) k61 (k_X11_readLapse l b D cy N v0 M54 _ _ c61) wl_982 wl_983 wl_984 wl_854 wl_966 hd_X11_readLapse ⟨Nat.le_of_ble_eq_true rfl, Nat.le_of_ble_eq_true rfl⟩ ⟨Nat.le_refl _, Nat.le_refl _⟩ (Nat.le_of_ble_eq_true rfl) rfl dX11_readLine_61 ?_
            refine x_goto F (tgt := 72) dX11_readLine_64 (by decide) ?_
            obtain ⟨c72, h⟩ := gdS h
            obtain ⟨rfl, rfl⟩ := retS h
            exact x_zret F hr hl c72 dX11_readLine_72
        · rw [if_neg c44] at h
          refine x_aload_n F dX11_readLine_47 rfl 0 rfl ?_
          obtain ⟨k48, h⟩ := gdS h
          obtain ⟨⟨x48, M48⟩, c48, h⟩ := bdS h
          dsimp only at h
          refine x_callV F (As := []) (rest := []) (res := (some (.int x48))) (ci := 11) (q := (RX11, TX11, 45)) rfl (by decide) k48 (k_X11_readLaw l b D cy N v0 M41 _ _ c48) wl_979 wl_980 wl_981 wl_854 wl_964 hd_X11_readLaw ⟨Nat.le_of_ble_eq_true rfl, Nat.le_of_ble_eq_true rfl⟩ ⟨Nat.le_refl _, Nat.le_refl _⟩ (Nat.le_of_ble_eq_true rfl) rfl dX11_readLine_48 ?_
          obtain ⟨c51, h⟩ := gdS h
          obtain ⟨rfl, rfl⟩ := retS h
          exact x_zret F hr hl c51 dX11_readLine_51
      · rw [if_neg c31] at h
        refine x_aload_n F dX11_readLine_34 rfl 0 rfl ?_
        obtain ⟨k35, h⟩ := gdS h
        obtain ⟨⟨x35, M35⟩, c35, h⟩ := bdS h
        dsimp only at h
        refine x_callV F (As := []) (rest := []) (res := (some (.int x35))) (ci := 11) (q := (RX11, TX11, 45)) rfl (by decide) k35 (k_X11_readWriter l b D cy N v0 M28 _ _ c35) wl_976 wl_977 wl_978 wl_854 wl_963 hd_X11_readWriter ⟨Nat.le_of_ble_eq_true rfl, Nat.le_of_ble_eq_true rfl⟩ ⟨Nat.le_refl _, Nat.le_refl _⟩ (Nat.le_of_ble_eq_true rfl) rfl dX11_readLine_35 ?_
        obtain ⟨c38, h⟩ := gdS h
        obtain ⟨rfl, rfl⟩ := retS h
        exact x_zret F hr hl c38 dX11_readLine_38
    · rw [if_neg c18] at h
      refine x_aload_n F dX11_readLine_21 rfl 0 rfl ?_
      obtain ⟨k22, h⟩ := gdS h
      obtain ⟨⟨x22, M22⟩, c22, h⟩ := bdS h
      dsimp only at h
      refine x_callV F (As := []) (rest := []) (res := (some (.int x22))) (ci := 11) (q := (RX11, TX11, 45)) rfl (by decide) k22 (k_X11_readTide l b D cy N v0 M15 _ _ c22) wl_973 wl_974 wl_975 wl_854 wl_962 hd_X11_readTide ⟨Nat.le_of_ble_eq_true rfl, Nat.le_of_ble_eq_true rfl⟩ ⟨Nat.le_refl _, Nat.le_refl _⟩ (Nat.le_of_ble_eq_true rfl) rfl dX11_readLine_22 ?_
      obtain ⟨c25, h⟩ := gdS h
      obtain ⟨rfl, rfl⟩ := retS h
      exact x_zret F hr hl c25 dX11_readLine_25
  · rw [if_neg c5] at h
    refine x_aload_n F dX11_readLine_8 rfl 0 rfl ?_
    obtain ⟨k9, h⟩ := gdS h
    obtain ⟨⟨x9, M9⟩, c9, h⟩ := bdS h
    dsimp only at h
    refine x_callV F (As := []) (rest := []) (res := (some (.int x9))) (ci := 11) (q := (RX11, TX11, 45)) rfl (by decide) k9 (k_X11_readBand l b D cy N v0 M2 _ _ c9) wl_970 wl_971 wl_972 wl_854 wl_961 hd_X11_readBand ⟨Nat.le_of_ble_eq_true rfl, Nat.le_of_ble_eq_true rfl⟩ ⟨Nat.le_refl _, Nat.le_refl _⟩ (Nat.le_of_ble_eq_true rfl) rfl dX11_readLine_9 ?_
    obtain ⟨c12, h⟩ := gdS h
    obtain ⟨rfl, rfl⟩ := retS h
    exact x_zret F hr hl c12 dX11_readLine_12
theorem hd_X11_begin : (yX11_begin).cls = RX11 ∧ (yX11_begin).cls ≠ "java/lang/invoke/MethodHandle" ∧ (yX11_begin).cls ≠ "java/lang/invoke/VarHandle" ∧ (parseMethodDescriptor (yX11_begin).desc).map (fun d => d.parameters.length) = some 1 := by decide +kernel
theorem hd_X11_readLine : (yX11_readLine).cls = RX11 ∧ (yX11_readLine).cls ≠ "java/lang/invoke/MethodHandle" ∧ (yX11_readLine).cls ≠ "java/lang/invoke/VarHandle" ∧ (parseMethodDescriptor (yX11_readLine).desc).map (fun d => d.parameters.length) = some 0 := by decide +kernel
theorem hd_X11_readEnd : (yX11_readEnd).cls = RX11 ∧ (yX11_readEnd).cls ≠ "java/lang/invoke/MethodHandle" ∧ (yX11_readEnd).cls ≠ "java/lang/invoke/VarHandle" ∧ (parseMethodDescriptor (yX11_readEnd).desc).map (fun d => d.parameters.length) = some 0 := by decide +kernel
theorem hd_X11_startSo : (yX11_startSo).cls = RX11 ∧ (yX11_startSo).cls ≠ "java/lang/invoke/MethodHandle" ∧ (yX11_startSo).cls ≠ "java/lang/invoke/VarHandle" ∧ (parseMethodDescriptor (yX11_startSo).desc).map (fun d => d.parameters.length) = some 0 := by decide +kernel
theorem dX11_shore_0 : decode cX11_shore 0 = .ok (.aload_n 0, 1) := by decide +kernel
theorem dX11_shore_1 : decode cX11_shore 1 = .ok (.sipush 900, 3) := by decide +kernel
theorem dX11_shore_4 : decode cX11_shore 4 = .ok (.invokevirtual 204, 3) := by decide +kernel
theorem dX11_shore_7 : decode cX11_shore 7 = .ok (.iconst 0, 1) := by decide +kernel
theorem dX11_shore_8 : decode cX11_shore 8 = .ok (.istore_n 1, 1) := by decide +kernel
theorem dX11_shore_9 : decode cX11_shore 9 = .ok (.iload_n 1, 1) := by decide +kernel
theorem dX11_shore_10 : decode cX11_shore 10 = .ok (.bipush 35, 2) := by decide +kernel
theorem dX11_shore_12 : decode cX11_shore 12 = .ok (.if_icmp .ge 16, 3) := by decide +kernel
theorem dX11_shore_15 : decode cX11_shore 15 = .ok (.aload_n 0, 1) := by decide +kernel
theorem dX11_shore_16 : decode cX11_shore 16 = .ok (.getfield 101, 3) := by decide +kernel
theorem dX11_shore_19 : decode cX11_shore 19 = .ok (.iload_n 1, 1) := by decide +kernel
theorem dX11_shore_20 : decode cX11_shore 20 = .ok (.iconst 0, 1) := by decide +kernel
theorem dX11_shore_21 : decode cX11_shore 21 = .ok (.iastore, 1) := by decide +kernel
theorem dX11_shore_22 : decode cX11_shore 22 = .ok (.iinc 1 1, 3) := by decide +kernel
theorem dX11_shore_25 : decode cX11_shore 25 = .ok (.goto (-16), 3) := by decide +kernel
theorem dX11_shore_28 : decode cX11_shore 28 = .ok (.aload_n 0, 1) := by decide +kernel
theorem dX11_shore_29 : decode cX11_shore 29 = .ok (.iconst 0, 1) := by decide +kernel
theorem dX11_shore_30 : decode cX11_shore 30 = .ok (.putfield 182, 3) := by decide +kernel
theorem dX11_shore_33 : decode cX11_shore 33 = .ok (.aload_n 0, 1) := by decide +kernel
theorem dX11_shore_34 : decode cX11_shore 34 = .ok (.getfield 101, 3) := by decide +kernel
theorem dX11_shore_37 : decode cX11_shore 37 = .ok (.iconst 4, 1) := by decide +kernel
theorem dX11_shore_38 : decode cX11_shore 38 = .ok (.iconst 3, 1) := by decide +kernel
theorem dX11_shore_39 : decode cX11_shore 39 = .ok (.iastore, 1) := by decide +kernel
theorem dX11_shore_40 : decode cX11_shore 40 = .ok (.iconst 0, 1) := by decide +kernel
theorem dX11_shore_41 : decode cX11_shore 41 = .ok (.istore_n 1, 1) := by decide +kernel
theorem dX11_shore_42 : decode cX11_shore 42 = .ok (.aload_n 0, 1) := by decide +kernel
theorem dX11_shore_43 : decode cX11_shore 43 = .ok (.getfield 30, 3) := by decide +kernel
theorem dX11_shore_46 : decode cX11_shore 46 = .ok (.ifCond .eq 30, 3) := by decide +kernel
theorem dX11_shore_49 : decode cX11_shore 49 = .ok (.aload_n 0, 1) := by decide +kernel
theorem dX11_shore_50 : decode cX11_shore 50 = .ok (.invokevirtual 207, 3) := by decide +kernel
theorem dX11_shore_53 : decode cX11_shore 53 = .ok (.ifCond .eq 10, 3) := by decide +kernel
theorem dX11_shore_56 : decode cX11_shore 56 = .ok (.aload_n 0, 1) := by decide +kernel
theorem dX11_shore_57 : decode cX11_shore 57 = .ok (.invokevirtual 210, 3) := by decide +kernel
theorem dX11_shore_60 : decode cX11_shore 60 = .ok (.ifCond .ne 10, 3) := by decide +kernel
theorem dX11_shore_63 : decode cX11_shore 63 = .ok (.iconst (-1), 1) := by decide +kernel
theorem dX11_shore_64 : decode cX11_shore 64 = .ok (.aload_n 0, 1) := by decide +kernel
theorem dX11_shore_65 : decode cX11_shore 65 = .ok (.getfield 69, 3) := by decide +kernel
theorem dX11_shore_68 : decode cX11_shore 68 = .ok (.isub, 1) := by decide +kernel
theorem dX11_shore_69 : decode cX11_shore 69 = .ok (.ireturn, 1) := by decide +kernel
theorem dX11_shore_70 : decode cX11_shore 70 = .ok (.iinc 1 1, 3) := by decide +kernel
theorem dX11_shore_73 : decode cX11_shore 73 = .ok (.goto (-31), 3) := by decide +kernel
theorem dX11_shore_76 : decode cX11_shore 76 = .ok (.iconst 0, 1) := by decide +kernel
theorem dX11_shore_77 : decode cX11_shore 77 = .ok (.istore_n 2, 1) := by decide +kernel
theorem dX11_shore_78 : decode cX11_shore 78 = .ok (.iload_n 2, 1) := by decide +kernel
theorem dX11_shore_79 : decode cX11_shore 79 = .ok (.bipush 35, 2) := by decide +kernel
theorem dX11_shore_81 : decode cX11_shore 81 = .ok (.if_icmp .ge 21, 3) := by decide +kernel
theorem dX11_shore_84 : decode cX11_shore 84 = .ok (.aload_n 0, 1) := by decide +kernel
theorem dX11_shore_85 : decode cX11_shore 85 = .ok (.getfield 98, 3) := by decide +kernel
theorem dX11_shore_88 : decode cX11_shore 88 = .ok (.iload_n 2, 1) := by decide +kernel
theorem dX11_shore_89 : decode cX11_shore 89 = .ok (.aload_n 0, 1) := by decide +kernel
theorem dX11_shore_90 : decode cX11_shore 90 = .ok (.getfield 101, 3) := by decide +kernel
theorem dX11_shore_93 : decode cX11_shore 93 = .ok (.iload_n 2, 1) := by decide +kernel
theorem dX11_shore_94 : decode cX11_shore 94 = .ok (.iaload, 1) := by decide +kernel
theorem dX11_shore_95 : decode cX11_shore 95 = .ok (.iastore, 1) := by decide +kernel
theorem dX11_shore_96 : decode cX11_shore 96 = .ok (.iinc 2 1, 3) := by decide +kernel
theorem dX11_shore_99 : decode cX11_shore 99 = .ok (.goto (-21), 3) := by decide +kernel
theorem dX11_shore_102 : decode cX11_shore 102 = .ok (.iconst 0, 1) := by decide +kernel
theorem dX11_shore_103 : decode cX11_shore 103 = .ok (.istore_n 2, 1) := by decide +kernel
theorem dX11_shore_104 : decode cX11_shore 104 = .ok (.iload_n 2, 1) := by decide +kernel
theorem dX11_shore_105 : decode cX11_shore 105 = .ok (.bipush 16, 2) := by decide +kernel
theorem dX11_shore_107 : decode cX11_shore 107 = .ok (.if_icmp .ge 21, 3) := by decide +kernel
theorem dX11_shore_110 : decode cX11_shore 110 = .ok (.aload_n 0, 1) := by decide +kernel
theorem dX11_shore_111 : decode cX11_shore 111 = .ok (.getfield 113, 3) := by decide +kernel
theorem dX11_shore_114 : decode cX11_shore 114 = .ok (.iload_n 2, 1) := by decide +kernel
theorem dX11_shore_115 : decode cX11_shore 115 = .ok (.aload_n 0, 1) := by decide +kernel
theorem dX11_shore_116 : decode cX11_shore 116 = .ok (.getfield 117, 3) := by decide +kernel
theorem dX11_shore_119 : decode cX11_shore 119 = .ok (.iload_n 2, 1) := by decide +kernel
theorem dX11_shore_120 : decode cX11_shore 120 = .ok (.laload, 1) := by decide +kernel
theorem dX11_shore_121 : decode cX11_shore 121 = .ok (.lastore, 1) := by decide +kernel
theorem dX11_shore_122 : decode cX11_shore 122 = .ok (.iinc 2 1, 3) := by decide +kernel
theorem dX11_shore_125 : decode cX11_shore 125 = .ok (.goto (-21), 3) := by decide +kernel
theorem dX11_shore_128 : decode cX11_shore 128 = .ok (.aload_n 0, 1) := by decide +kernel
theorem dX11_shore_129 : decode cX11_shore 129 = .ok (.invokevirtual 154, 3) := by decide +kernel
theorem dX11_shore_132 : decode cX11_shore 132 = .ok (.aload_n 0, 1) := by decide +kernel
theorem dX11_shore_133 : decode cX11_shore 133 = .ok (.iconst 0, 1) := by decide +kernel
theorem dX11_shore_134 : decode cX11_shore 134 = .ok (.putfield 213, 3) := by decide +kernel
theorem dX11_shore_137 : decode cX11_shore 137 = .ok (.iload_n 1, 1) := by decide +kernel
theorem dX11_shore_138 : decode cX11_shore 138 = .ok (.ireturn, 1) := by decide +kernel
def fX11_shore_L9 (N : Nat) (v0 : Nat) : Nat → Int32 → Mem → Option (Mem)
  | 0, _, _ => none
  | n + 1, v1, M => (if 35 ≤ v1 then some M else ((fR M 11 v0 15).bind fun x16 => ((tI M x16 v1 0).bind fun M21 => fX11_shore_L9 N v0 n (v1 + 1) M21)))
def fX11_shore_L42 (N : Nat) (v0 : Nat) : Nat → Int32 → Mem → Option ((Int32 × Mem) ⊕ (Int32 × Mem))
  | 0, _, _ => none
  | n + 1, v1, M => ((fI M 11 v0 7).bind fun x43 => (if x43 = 0 then some (.inl (v1, M)) else (if mK M v0 = 12 then ((fX11_readLine N v0 M).bind fun (x50, M50) => (if x50 = 0 then ((fI M50 11 v0 11).bind fun x65 => some (.inr (((-1)) - x65, M50))) else (if mK M50 v0 = 12 then ((fX11_readEnd N v0 M50).bind fun (x57, M57) => (if x57 = 0 then ((fI M57 11 v0 11).bind fun x65 => some (.inr (((-1)) - x65, M57))) else fX11_shore_L42 N v0 n (v1 + 1) M57)) else none))) else none)))
def fX11_shore_L78 (N : Nat) (v0 : Nat) (v1 : Int32) : Nat → Int32 → Mem → Option (Mem)
  | 0, _, _ => none
  | n + 1, v2, M => (if 35 ≤ v2 then some M else ((fR M 11 v0 14).bind fun x85 => ((fR M 11 v0 15).bind fun x90 => ((aI M x90 v2).bind fun x94 => ((tI M x85 v2 x94).bind fun M95 => fX11_shore_L78 N v0 v1 n (v2 + 1) M95)))))
def fX11_shore_L104 (N : Nat) (v0 : Nat) (v1 : Int32) : Nat → Int32 → Mem → Option (Mem)
  | 0, _, _ => none
  | n + 1, v2, M => (if 16 ≤ v2 then some M else ((fR M 11 v0 19).bind fun x111 => ((fR M 11 v0 20).bind fun x116 => ((aL M x116 v2).bind fun x120 => ((tL M x111 v2 x120).bind fun M121 => fX11_shore_L104 N v0 v1 n (v2 + 1) M121)))))
def fX11_shore (N : Nat) (v0 : Nat) (M : Mem) : Option (Int32 × Mem) := (if mK M v0 = 12 then ((fX11_begin N v0 900 M).bind fun (u4, M4) => ((fX11_shore_L9 N v0 N 0 M4).bind fun o9 => ((pZ o9 11 v0 23 0).bind fun M30 => ((fR M30 11 v0 15).bind fun x34 => ((tI M30 x34 4 3).bind fun M39 => ((fX11_shore_L42 N v0 N 0 M39).bind fun o42 => match o42 with | .inl (w1_42, M42) => ((fX11_shore_L78 N v0 w1_42 N 0 M42).bind fun o78 => ((fX11_shore_L104 N v0 w1_42 N 0 o78).bind fun o104 => (if mK o104 v0 = 12 then ((fX11_startSo N v0 o104).bind fun (u129, M129) => ((pI M129 11 v0 24 0).bind fun M134 => some (w1_42, M134))) else none))) | .inr z => some z)))))) else none)
set_option maxHeartbeats 4000000 in
set_option maxRecDepth 100000 in
theorem k_X11_shore (l : Launch) (b : Nat) (D : va_G) (cy : Nat → ClassId) (N : Nat) (v0 : Nat) (M : Mem) (r : Int32) (Mf : Mem) (h : fX11_shore N v0 M = some (r, Mf)) : Ct l yX11_shore cX11_shore 3 (some .int) 7 0 0 b D cy [.ref (b + v0)] M (some (.int r)) Mf := by
  refine Ct_of (own := RX11) (by decide) rfl (Nat.le_of_ble_eq_true rfl) ?_
  intro p e s m args below meth c F hr hl hmn
  unfold fX11_shore at h
  show X p l e ({ frames := 7, cells := 0, slots := 0, locals := 100 * 7 }) s m args below meth c (MQ below (Qm b D cy (some (.int r)) Mf) args s 0 0 (fun q => b ≤ q)) 3 b D cy 0 0 M 0 [(0, .ref (b + v0))] []
  refine x_aload_n F dX11_shore_0 rfl 0 rfl ?_
  refine x_sipush F (v := 900) dX11_shore_1 (by decide) ?_
  obtain ⟨k4, h⟩ := gdS h
  obtain ⟨⟨u4, M4⟩, c4, h⟩ := bdS h
  dsimp only at h
  refine x_callV F (As := [.int 900]) (rest := []) (res := none) (ci := 11) (q := (RX11, TX11, 45)) rfl (by decide) k4 (k_X11_begin l b D cy N v0 900 M _ _ c4) wl_987 wl_988 wl_989 wl_854 wl_911 hd_X11_begin ⟨Nat.le_of_ble_eq_true rfl, Nat.le_of_ble_eq_true rfl⟩ ⟨Nat.le_refl _, Nat.le_refl _⟩ (Nat.le_of_ble_eq_true rfl) rfl dX11_shore_4 ?_
  refine x_iconst F (v := 0) dX11_shore_7 (by decide) ?_
  refine x_istore_n F (lv' := [(1, .int 0), (0, .ref (b + v0))]) dX11_shore_8 rfl (by decide) rfl ?_
  have L9 : ∀ (v0 : Nat) (n : Nat) (v1 : Int32) (M : Mem) (o : Mem), fX11_shore_L9 N v0 n v1 M = some o → X p l e ({ frames := 7, cells := 0, slots := 0, locals := 100 * 7 }) s m args below meth c (MQ below (Qm b D cy (some (.int r)) Mf) args s 0 0 (fun q => b ≤ q)) 3 b D cy 0 0 o 28 [(0, .ref (b + v0))] [] → X p l e ({ frames := 7, cells := 0, slots := 0, locals := 100 * 7 }) s m args below meth c (MQ below (Qm b D cy (some (.int r)) Mf) args s 0 0 (fun q => b ≤ q)) 3 b D cy 0 0 M 9 [(0, .ref (b + v0)), (1, .int v1)] [] := by
    intro v0 n
    induction n with
    | zero => intro v1 M o h; exact absurd h (by rw [fX11_shore_L9]; exact fun z => by cases z)
    | succ n ih =>
      intro v1 M o h hE
      rw [fX11_shore_L9] at h
      refine x_iload_n F dX11_shore_9 rfl 1 rfl ?_
      refine x_bipush F (v := 35) dX11_shore_10 (by decide) ?_
      refine x_icmp_ge F (tgt := 28) dX11_shore_12 (by decide) (fun c12 => ?_) (fun c12 => ?_)
      · rw [if_pos c12] at h
        obtain rfl := Option.some.inj h
        refine x_sub [0] rfl ?_
        exact hE
      · rw [if_neg c12] at h
        refine x_aload_n F dX11_shore_15 rfl 0 rfl ?_
        obtain ⟨x16, c16, h⟩ := bdS h
        refine x_getR F (ci := 11) (C := RX11) (T := TX11) (N := 45) rfl ⟨by decide, rfl⟩ inU11 15 (by decide) (fun _ _ _ => rfl) wl_915 c16 dX11_shore_16 ?_
        refine x_iload_n F dX11_shore_19 rfl 1 rfl ?_
        refine x_iconst F (v := 0) dX11_shore_20 (by decide) ?_
        obtain ⟨M21, c21, h⟩ := bdS h
        refine x_tI F c21 dX11_shore_21 ?_
        refine x_iinc F (v := v1 + 1) (lv' := [(1, .int (v1 + 1)), (0, .ref (b + v0))]) dX11_shore_22 1 rfl rfl (by decide) rfl ?_
        refine x_goto F (tgt := 9) dX11_shore_25 (by decide) ?_
        refine x_sub [1, 0] rfl ?_
        exact ih (v1 + 1) M21 o h hE
  obtain ⟨o9, h9, h⟩ := bdS h
  refine x_sub [1, 0] rfl ?_
  refine L9 v0 N 0 M4 o9 h9 ?_
  refine x_aload_n F dX11_shore_28 rfl 0 rfl ?_
  refine x_iconst F (v := 0) dX11_shore_29 (by decide) ?_
  obtain ⟨M30, c30, h⟩ := bdS h
  refine x_putZ F (ci := 11) (C := RX11) (T := TX11) (N := 45) rfl ⟨by decide, rfl⟩ inU11 tyX11_ok nmX11 23 (by decide) rfl rfl wl_965 c30 dX11_shore_30 ?_
  refine x_aload_n F dX11_shore_33 rfl 0 rfl ?_
  obtain ⟨x34, c34, h⟩ := bdS h
  refine x_getR F (ci := 11) (C := RX11) (T := TX11) (N := 45) rfl ⟨by decide, rfl⟩ inU11 15 (by decide) (fun _ _ _ => rfl) wl_915 c34 dX11_shore_34 ?_
  refine x_iconst F (v := 4) dX11_shore_37 (by decide) ?_
  refine x_iconst F (v := 3) dX11_shore_38 (by decide) ?_
  obtain ⟨M39, c39, h⟩ := bdS h
  refine x_tI F c39 dX11_shore_39 ?_
  refine x_iconst F (v := 0) dX11_shore_40 (by decide) ?_
  refine x_istore_n F (lv' := [(1, .int 0), (0, .ref (b + v0))]) dX11_shore_41 rfl (by decide) rfl ?_
  have L42 : ∀ (v0 : Nat) (n : Nat) (v1 : Int32) (M : Mem) (o : (Int32 × Mem) ⊕ (Int32 × Mem)), fX11_shore_L42 N v0 n v1 M = some o → (∀ (w1 : Int32) (M' : Mem), o = .inl (w1, M') → X p l e ({ frames := 7, cells := 0, slots := 0, locals := 100 * 7 }) s m args below meth c (MQ below (Qm b D cy (some (.int r)) Mf) args s 0 0 (fun q => b ≤ q)) 3 b D cy 0 0 M' 76 [(0, .ref (b + v0)), (1, .int w1)] []) → (∀ (r' : Int32) (M' : Mem), o = Sum.inr (r', M') → r' = r ∧ M' = Mf) → X p l e ({ frames := 7, cells := 0, slots := 0, locals := 100 * 7 }) s m args below meth c (MQ below (Qm b D cy (some (.int r)) Mf) args s 0 0 (fun q => b ≤ q)) 3 b D cy 0 0 M 42 [(0, .ref (b + v0)), (1, .int v1)] [] := by
    intro v0 n
    induction n with
    | zero => intro v1 M o h; exact absurd h (by rw [fX11_shore_L42]; exact fun z => by cases z)
    | succ n ih =>
      intro v1 M o h hE hR
      rw [fX11_shore_L42] at h
      refine x_aload_n F dX11_shore_42 rfl 0 rfl ?_
      obtain ⟨x43, c43, h⟩ := bdS h
      refine x_getI F (ci := 11) (C := RX11) (T := TX11) (N := 45) rfl ⟨by decide, rfl⟩ inU11 7 (by decide) (fun _ _ _ => rfl) wl_869 c43 dX11_shore_43 ?_
      refine x_if_eq F (tgt := 76) dX11_shore_46 (by decide) (fun c46 => ?_) (fun c46 => ?_)
      · rw [if_pos c46] at h
        obtain rfl := Option.some.inj h
        exact hE _ _ rfl
      · rw [if_neg c46] at h
        refine x_aload_n F dX11_shore_49 rfl 0 rfl ?_
        obtain ⟨k50, h⟩ := gdS h
        obtain ⟨⟨x50, M50⟩, c50, h⟩ := bdS h
        dsimp only at h
        refine x_callV F (As := []) (rest := []) (res := (some (.int x50))) (ci := 11) (q := (RX11, TX11, 45)) rfl (by decide) k50 (k_X11_readLine l b D cy N v0 M _ _ c50) wl_990 wl_991 wl_992 wl_854 wl_985 hd_X11_readLine ⟨Nat.le_of_ble_eq_true rfl, Nat.le_of_ble_eq_true rfl⟩ ⟨Nat.le_refl _, Nat.le_refl _⟩ (Nat.le_of_ble_eq_true rfl) rfl dX11_shore_50 ?_
        refine x_if_eq F (tgt := 63) dX11_shore_53 (by decide) (fun c53 => ?_) (fun c53 => ?_)
        · rw [if_pos c53] at h
          refine x_iconst F (v := (-1)) dX11_shore_63 (by decide) ?_
          refine x_aload_n F dX11_shore_64 rfl 0 rfl ?_
          obtain ⟨x65, c65, h⟩ := bdS h
          refine x_getI F (ci := 11) (C := RX11) (T := TX11) (N := 45) rfl ⟨by decide, rfl⟩ inU11 11 (by decide) (fun _ _ _ => rfl) wl_893 c65 dX11_shore_65 ?_
          refine x_isub F dX11_shore_68 ?_
          obtain rfl := Option.some.inj h
          obtain ⟨rfl, rfl⟩ := hR _ _ rfl
          exact x_iret F hr hl dX11_shore_69
        · rw [if_neg c53] at h
          refine x_aload_n F dX11_shore_56 rfl 0 rfl ?_
          obtain ⟨k57, h⟩ := gdS h
          obtain ⟨⟨x57, M57⟩, c57, h⟩ := bdS h
          dsimp only at h
          refine x_callV F (As := []) (rest := []) (res := (some (.int x57))) (ci := 11) (q := (RX11, TX11, 45)) rfl (by decide) k57 (k_X11_readEnd l b D cy N v0 M50 _ _ c57) wl_993 wl_994 wl_995 wl_854 wl_907 hd_X11_readEnd ⟨Nat.le_of_ble_eq_true rfl, Nat.le_of_ble_eq_true rfl⟩ ⟨Nat.le_refl _, Nat.le_refl _⟩ (Nat.le_of_ble_eq_true rfl) rfl dX11_shore_57 ?_
          refine x_if_ne F (tgt := 70) dX11_shore_60 (by decide) (fun c60 => ?_) (fun c60 => ?_)
          · rw [if_neg c60] at h
            refine x_iinc F (v := v1 + 1) (lv' := [(1, .int (v1 + 1)), (0, .ref (b + v0))]) dX11_shore_70 1 rfl rfl (by decide) rfl ?_
            refine x_goto F (tgt := 42) dX11_shore_73 (by decide) ?_
            refine x_sub [1, 0] rfl ?_
            exact ih (v1 + 1) M57 o h hE hR
          · rw [if_pos c60] at h
            refine x_iconst F (v := (-1)) dX11_shore_63 (by decide) ?_
            refine x_aload_n F dX11_shore_64 rfl 0 rfl ?_
            obtain ⟨x65, c65, h⟩ := bdS h
            refine x_getI F (ci := 11) (C := RX11) (T := TX11) (N := 45) rfl ⟨by decide, rfl⟩ inU11 11 (by decide) (fun _ _ _ => rfl) wl_893 c65 dX11_shore_65 ?_
            refine x_isub F dX11_shore_68 ?_
            obtain rfl := Option.some.inj h
            obtain ⟨rfl, rfl⟩ := hR _ _ rfl
            exact x_iret F hr hl dX11_shore_69
  obtain ⟨o42, h42, h⟩ := bdS h
  refine x_sub [1, 0] rfl ?_
  refine L42 v0 N 0 M39 o42 h42 (fun w1_42 M42 e => ?_) (fun r' M' e => ?_)
  · subst e
    dsimp only at h
    refine x_iconst F (v := 0) dX11_shore_76 (by decide) ?_
    refine x_istore_n F (lv' := [(2, .int 0), (0, .ref (b + v0)), (1, .int w1_42)]) dX11_shore_77 rfl (by decide) rfl ?_
    have L78 : ∀ (v0 : Nat) (v1 : Int32) (n : Nat) (v2 : Int32) (M : Mem) (o : Mem), fX11_shore_L78 N v0 v1 n v2 M = some o → X p l e ({ frames := 7, cells := 0, slots := 0, locals := 100 * 7 }) s m args below meth c (MQ below (Qm b D cy (some (.int r)) Mf) args s 0 0 (fun q => b ≤ q)) 3 b D cy 0 0 o 102 [(0, .ref (b + v0)), (1, .int v1)] [] → X p l e ({ frames := 7, cells := 0, slots := 0, locals := 100 * 7 }) s m args below meth c (MQ below (Qm b D cy (some (.int r)) Mf) args s 0 0 (fun q => b ≤ q)) 3 b D cy 0 0 M 78 [(0, .ref (b + v0)), (1, .int v1), (2, .int v2)] [] := by
      intro v0 v1 n
      induction n with
      | zero => intro v2 M o h; exact absurd h (by rw [fX11_shore_L78]; exact fun z => by cases z)
      | succ n ih =>
        intro v2 M o h hE
        rw [fX11_shore_L78] at h
        refine x_iload_n F dX11_shore_78 rfl 2 rfl ?_
        refine x_bipush F (v := 35) dX11_shore_79 (by decide) ?_
        refine x_icmp_ge F (tgt := 102) dX11_shore_81 (by decide) (fun c81 => ?_) (fun c81 => ?_)
        · rw [if_pos c81] at h
          obtain rfl := Option.some.inj h
          refine x_sub [0, 1] rfl ?_
          exact hE
        · rw [if_neg c81] at h
          refine x_aload_n F dX11_shore_84 rfl 0 rfl ?_
          obtain ⟨x85, c85, h⟩ := bdS h
          refine x_getR F (ci := 11) (C := RX11) (T := TX11) (N := 45) rfl ⟨by decide, rfl⟩ inU11 14 (by decide) (fun _ _ _ => rfl) wl_913 c85 dX11_shore_85 ?_
          refine x_iload_n F dX11_shore_88 rfl 2 rfl ?_
          refine x_aload_n F dX11_shore_89 rfl 0 rfl ?_
          obtain ⟨x90, c90, h⟩ := bdS h
          refine x_getR F (ci := 11) (C := RX11) (T := TX11) (N := 45) rfl ⟨by decide, rfl⟩ inU11 15 (by decide) (fun _ _ _ => rfl) wl_915 c90 dX11_shore_90 ?_
          refine x_iload_n F dX11_shore_93 rfl 2 rfl ?_
          obtain ⟨x94, c94, h⟩ := bdS h
          refine x_aI F c94 dX11_shore_94 ?_
          obtain ⟨M95, c95, h⟩ := bdS h
          refine x_tI F c95 dX11_shore_95 ?_
          refine x_iinc F (v := v2 + 1) (lv' := [(2, .int (v2 + 1)), (0, .ref (b + v0)), (1, .int v1)]) dX11_shore_96 2 rfl rfl (by decide) rfl ?_
          refine x_goto F (tgt := 78) dX11_shore_99 (by decide) ?_
          refine x_sub [1, 2, 0] rfl ?_
          exact ih (v2 + 1) M95 o h hE
    obtain ⟨o78, h78, h⟩ := bdS h
    refine x_sub [1, 2, 0] rfl ?_
    refine L78 v0 w1_42 N 0 M42 o78 h78 ?_
    refine x_iconst F (v := 0) dX11_shore_102 (by decide) ?_
    refine x_istore_n F (lv' := [(2, .int 0), (0, .ref (b + v0)), (1, .int w1_42)]) dX11_shore_103 rfl (by decide) rfl ?_
    have L104 : ∀ (v0 : Nat) (v1 : Int32) (n : Nat) (v2 : Int32) (M : Mem) (o : Mem), fX11_shore_L104 N v0 v1 n v2 M = some o → X p l e ({ frames := 7, cells := 0, slots := 0, locals := 100 * 7 }) s m args below meth c (MQ below (Qm b D cy (some (.int r)) Mf) args s 0 0 (fun q => b ≤ q)) 3 b D cy 0 0 o 128 [(0, .ref (b + v0)), (1, .int v1)] [] → X p l e ({ frames := 7, cells := 0, slots := 0, locals := 100 * 7 }) s m args below meth c (MQ below (Qm b D cy (some (.int r)) Mf) args s 0 0 (fun q => b ≤ q)) 3 b D cy 0 0 M 104 [(0, .ref (b + v0)), (1, .int v1), (2, .int v2)] [] := by
      intro v0 v1 n
      induction n with
      | zero => intro v2 M o h; exact absurd h (by rw [fX11_shore_L104]; exact fun z => by cases z)
      | succ n ih =>
        intro v2 M o h hE
        rw [fX11_shore_L104] at h
        refine x_iload_n F dX11_shore_104 rfl 2 rfl ?_
        refine x_bipush F (v := 16) dX11_shore_105 (by decide) ?_
        refine x_icmp_ge F (tgt := 128) dX11_shore_107 (by decide) (fun c107 => ?_) (fun c107 => ?_)
        · rw [if_pos c107] at h
          obtain rfl := Option.some.inj h
          refine x_sub [0, 1] rfl ?_
          exact hE
        · rw [if_neg c107] at h
          refine x_aload_n F dX11_shore_110 rfl 0 rfl ?_
          obtain ⟨x111, c111, h⟩ := bdS h
          refine x_getR F (ci := 11) (C := RX11) (T := TX11) (N := 45) rfl ⟨by decide, rfl⟩ inU11 19 (by decide) (fun _ _ _ => rfl) wl_919 c111 dX11_shore_111 ?_
          refine x_iload_n F dX11_shore_114 rfl 2 rfl ?_
          refine x_aload_n F dX11_shore_115 rfl 0 rfl ?_
          obtain ⟨x116, c116, h⟩ := bdS h
          refine x_getR F (ci := 11) (C := RX11) (T := TX11) (N := 45) rfl ⟨by decide, rfl⟩ inU11 20 (by decide) (fun _ _ _ => rfl) wl_920 c116 dX11_shore_116 ?_
          refine x_iload_n F dX11_shore_119 rfl 2 rfl ?_
          obtain ⟨x120, c120, h⟩ := bdS h
          refine x_aL F c120 dX11_shore_120 ?_
          obtain ⟨M121, c121, h⟩ := bdS h
          refine x_tL F c121 dX11_shore_121 ?_
          refine x_iinc F (v := v2 + 1) (lv' := [(2, .int (v2 + 1)), (0, .ref (b + v0)), (1, .int v1)]) dX11_shore_122 2 rfl rfl (by decide) rfl ?_
          refine x_goto F (tgt := 104) dX11_shore_125 (by decide) ?_
          refine x_sub [1, 2, 0] rfl ?_
          exact ih (v2 + 1) M121 o h hE
    obtain ⟨o104, h104, h⟩ := bdS h
    refine x_sub [1, 2, 0] rfl ?_
    refine L104 v0 w1_42 N 0 o78 o104 h104 ?_
    refine x_aload_n F dX11_shore_128 rfl 0 rfl ?_
    obtain ⟨k129, h⟩ := gdS h
    obtain ⟨⟨u129, M129⟩, c129, h⟩ := bdS h
    dsimp only at h
    refine x_callV F (As := []) (rest := []) (res := none) (ci := 11) (q := (RX11, TX11, 45)) rfl (by decide) k129 (k_X11_startSo l b D cy N v0 o104 _ _ c129) wl_932 wl_933 wl_934 wl_854 wl_912 hd_X11_startSo ⟨Nat.le_of_ble_eq_true rfl, Nat.le_of_ble_eq_true rfl⟩ ⟨Nat.le_refl _, Nat.le_refl _⟩ (Nat.le_of_ble_eq_true rfl) rfl dX11_shore_129 ?_
    refine x_aload_n F dX11_shore_132 rfl 0 rfl ?_
    refine x_iconst F (v := 0) dX11_shore_133 (by decide) ?_
    obtain ⟨M134, c134, h⟩ := bdS h
    refine x_putI F (ci := 11) (C := RX11) (T := TX11) (N := 45) rfl ⟨by decide, rfl⟩ inU11 tyX11_ok nmX11 24 (by decide) rfl rfl wl_986 c134 dX11_shore_134 ?_
    refine x_iload_n F dX11_shore_137 rfl 1 rfl ?_
    obtain ⟨rfl, rfl⟩ := retS h
    exact x_iret F hr hl dX11_shore_138
  · subst e
    try dsimp only at h
    obtain ⟨rfl, rfl⟩ := retS h; exact ⟨rfl, rfl⟩
theorem dX11_fault_0 : decode cX11_fault 0 = .ok (.aload_n 0, 1) := by decide +kernel
theorem dX11_fault_1 : decode cX11_fault 1 = .ok (.iconst 0, 1) := by decide +kernel
theorem dX11_fault_2 : decode cX11_fault 2 = .ok (.putfield 1, 3) := by decide +kernel
theorem dX11_fault_5 : decode cX11_fault 5 = .ok (.aload_n 0, 1) := by decide +kernel
theorem dX11_fault_6 : decode cX11_fault 6 = .ok (.getfield 66, 3) := by decide +kernel
theorem dX11_fault_9 : decode cX11_fault 9 = .ok (.ireturn, 1) := by decide +kernel
def fX11_fault (N : Nat) (v0 : Nat) (M : Mem) : Option (Int32 × Mem) := ((pI M 11 v0 0 0).bind fun M2 => ((fI M2 11 v0 10).bind fun x6 => some (x6, M2)))
set_option maxHeartbeats 4000000 in
set_option maxRecDepth 100000 in
theorem k_X11_fault (l : Launch) (b : Nat) (D : va_G) (cy : Nat → ClassId) (N : Nat) (v0 : Nat) (M : Mem) (r : Int32) (Mf : Mem) (h : fX11_fault N v0 M = some (r, Mf)) : Ct l yX11_fault cX11_fault 1 (some .int) 1 0 0 b D cy [.ref (b + v0)] M (some (.int r)) Mf := by
  refine Ct_of (own := RX11) (by decide) rfl (Nat.le_of_ble_eq_true rfl) ?_
  intro p e s m args below meth c F hr hl hmn
  unfold fX11_fault at h
  show X p l e ({ frames := 1, cells := 0, slots := 0, locals := 100 * 1 }) s m args below meth c (MQ below (Qm b D cy (some (.int r)) Mf) args s 0 0 (fun q => b ≤ q)) 1 b D cy 0 0 M 0 [(0, .ref (b + v0))] []
  refine x_aload_n F dX11_fault_0 rfl 0 rfl ?_
  refine x_iconst F (v := 0) dX11_fault_1 (by decide) ?_
  obtain ⟨M2, c2, h⟩ := bdS h
  refine x_putI F (ci := 11) (C := RX11) (T := TX11) (N := 45) rfl ⟨by decide, rfl⟩ inU11 tyX11_ok nmX11 0 (by decide) rfl rfl wl_845 c2 dX11_fault_2 ?_
  refine x_aload_n F dX11_fault_5 rfl 0 rfl ?_
  obtain ⟨x6, c6, h⟩ := bdS h
  refine x_getI F (ci := 11) (C := RX11) (T := TX11) (N := 45) rfl ⟨by decide, rfl⟩ inU11 10 (by decide) (fun _ _ _ => rfl) wl_892 c6 dX11_fault_6 ?_
  obtain ⟨rfl, rfl⟩ := retS h
  exact x_iret F hr hl dX11_fault_9
theorem dX11_isBand_0 : decode cX11_isBand 0 = .ok (.iload_n 1, 1) := by decide +kernel
theorem dX11_isBand_1 : decode cX11_isBand 1 = .ok (.iconst 0, 1) := by decide +kernel
theorem dX11_isBand_2 : decode cX11_isBand 2 = .ok (.aload_n 0, 1) := by decide +kernel
theorem dX11_isBand_3 : decode cX11_isBand 3 = .ok (.getfield 98, 3) := by decide +kernel
theorem dX11_isBand_6 : decode cX11_isBand 6 = .ok (.iconst 0, 1) := by decide +kernel
theorem dX11_isBand_7 : decode cX11_isBand 7 = .ok (.iaload, 1) := by decide +kernel
theorem dX11_isBand_8 : decode cX11_isBand 8 = .ok (.iconst 1, 1) := by decide +kernel
theorem dX11_isBand_9 : decode cX11_isBand 9 = .ok (.isub, 1) := by decide +kernel
theorem dX11_isBand_10 : decode cX11_isBand 10 = .ok (.invokestatic 75, 3) := by decide +kernel
theorem dX11_isBand_13 : decode cX11_isBand 13 = .ok (.ireturn, 1) := by decide +kernel
def fX11_isBand (N : Nat) (v0 : Nat) (v1 : Int32) (M : Mem) : Option (Int32 × Mem) := ((fR M 11 v0 14).bind fun x3 => ((aI M x3 0).bind fun x7 => ((fX11_isIn N v1 0 (x7 - 1) M).bind fun (x10, M10) => (if vp_nar .boolean x10 = x10 then some (x10, M10) else none))))
set_option maxHeartbeats 4000000 in
set_option maxRecDepth 100000 in
theorem k_X11_isBand (l : Launch) (b : Nat) (D : va_G) (cy : Nat → ClassId) (N : Nat) (v0 : Nat) (v1 : Int32) (M : Mem) (r : Int32) (Mf : Mem) (h : fX11_isBand N v0 v1 M = some (r, Mf)) : Ct l yX11_isBand cX11_isBand 2 (some .boolean) 2 0 0 b D cy [.ref (b + v0), .int v1] M (some (.int r)) Mf := by
  refine Ct_of (own := RX11) (by decide) rfl (Nat.le_of_ble_eq_true rfl) ?_
  intro p e s m args below meth c F hr hl hmn
  unfold fX11_isBand at h
  show X p l e ({ frames := 2, cells := 0, slots := 0, locals := 100 * 2 }) s m args below meth c (MQ below (Qm b D cy (some (.int r)) Mf) args s 0 0 (fun q => b ≤ q)) 2 b D cy 0 0 M 0 [(0, .ref (b + v0)), (1, .int v1)] []
  refine x_iload_n F dX11_isBand_0 rfl 1 rfl ?_
  refine x_iconst F (v := 0) dX11_isBand_1 (by decide) ?_
  refine x_aload_n F dX11_isBand_2 rfl 0 rfl ?_
  obtain ⟨x3, c3, h⟩ := bdS h
  refine x_getR F (ci := 11) (C := RX11) (T := TX11) (N := 45) rfl ⟨by decide, rfl⟩ inU11 14 (by decide) (fun _ _ _ => rfl) wl_913 c3 dX11_isBand_3 ?_
  refine x_iconst F (v := 0) dX11_isBand_6 (by decide) ?_
  obtain ⟨x7, c7, h⟩ := bdS h
  refine x_aI F c7 dX11_isBand_7 ?_
  refine x_iconst F (v := 1) dX11_isBand_8 (by decide) ?_
  refine x_isub F dX11_isBand_9 ?_
  obtain ⟨⟨x10, M10⟩, c10, h⟩ := bdS h
  dsimp only at h
  refine x_callS F (As := [.int v1, .int 0, .int (x7 - 1)]) (rest := []) (res := (some (.int x10))) (k_X11_isIn l b D cy N v1 0 (x7 - 1) M _ _ c10) wl_898 wl_899 wl_854 wl_857 (hd_X11_isIn).2 ⟨Nat.le_of_ble_eq_true rfl, Nat.le_of_ble_eq_true rfl⟩ ⟨Nat.le_refl _, Nat.le_refl _⟩ (Nat.le_of_ble_eq_true rfl) rfl dX11_isBand_10 ?_
  obtain ⟨c13, h⟩ := gdS h
  obtain ⟨rfl, rfl⟩ := retS h
  exact x_zret F hr hl c13 dX11_isBand_13
theorem dX11_isWriter_0 : decode cX11_isWriter 0 = .ok (.iload_n 1, 1) := by decide +kernel
theorem dX11_isWriter_1 : decode cX11_isWriter 1 = .ok (.iconst 0, 1) := by decide +kernel
theorem dX11_isWriter_2 : decode cX11_isWriter 2 = .ok (.aload_n 0, 1) := by decide +kernel
theorem dX11_isWriter_3 : decode cX11_isWriter 3 = .ok (.getfield 98, 3) := by decide +kernel
theorem dX11_isWriter_6 : decode cX11_isWriter 6 = .ok (.iconst 1, 1) := by decide +kernel
theorem dX11_isWriter_7 : decode cX11_isWriter 7 = .ok (.iaload, 1) := by decide +kernel
theorem dX11_isWriter_8 : decode cX11_isWriter 8 = .ok (.iconst 1, 1) := by decide +kernel
theorem dX11_isWriter_9 : decode cX11_isWriter 9 = .ok (.isub, 1) := by decide +kernel
theorem dX11_isWriter_10 : decode cX11_isWriter 10 = .ok (.invokestatic 75, 3) := by decide +kernel
theorem dX11_isWriter_13 : decode cX11_isWriter 13 = .ok (.ireturn, 1) := by decide +kernel
def fX11_isWriter (N : Nat) (v0 : Nat) (v1 : Int32) (M : Mem) : Option (Int32 × Mem) := ((fR M 11 v0 14).bind fun x3 => ((aI M x3 1).bind fun x7 => ((fX11_isIn N v1 0 (x7 - 1) M).bind fun (x10, M10) => (if vp_nar .boolean x10 = x10 then some (x10, M10) else none))))
set_option maxHeartbeats 4000000 in
set_option maxRecDepth 100000 in
theorem k_X11_isWriter (l : Launch) (b : Nat) (D : va_G) (cy : Nat → ClassId) (N : Nat) (v0 : Nat) (v1 : Int32) (M : Mem) (r : Int32) (Mf : Mem) (h : fX11_isWriter N v0 v1 M = some (r, Mf)) : Ct l yX11_isWriter cX11_isWriter 2 (some .boolean) 2 0 0 b D cy [.ref (b + v0), .int v1] M (some (.int r)) Mf := by
  refine Ct_of (own := RX11) (by decide) rfl (Nat.le_of_ble_eq_true rfl) ?_
  intro p e s m args below meth c F hr hl hmn
  unfold fX11_isWriter at h
  show X p l e ({ frames := 2, cells := 0, slots := 0, locals := 100 * 2 }) s m args below meth c (MQ below (Qm b D cy (some (.int r)) Mf) args s 0 0 (fun q => b ≤ q)) 2 b D cy 0 0 M 0 [(0, .ref (b + v0)), (1, .int v1)] []
  refine x_iload_n F dX11_isWriter_0 rfl 1 rfl ?_
  refine x_iconst F (v := 0) dX11_isWriter_1 (by decide) ?_
  refine x_aload_n F dX11_isWriter_2 rfl 0 rfl ?_
  obtain ⟨x3, c3, h⟩ := bdS h
  refine x_getR F (ci := 11) (C := RX11) (T := TX11) (N := 45) rfl ⟨by decide, rfl⟩ inU11 14 (by decide) (fun _ _ _ => rfl) wl_913 c3 dX11_isWriter_3 ?_
  refine x_iconst F (v := 1) dX11_isWriter_6 (by decide) ?_
  obtain ⟨x7, c7, h⟩ := bdS h
  refine x_aI F c7 dX11_isWriter_7 ?_
  refine x_iconst F (v := 1) dX11_isWriter_8 (by decide) ?_
  refine x_isub F dX11_isWriter_9 ?_
  obtain ⟨⟨x10, M10⟩, c10, h⟩ := bdS h
  dsimp only at h
  refine x_callS F (As := [.int v1, .int 0, .int (x7 - 1)]) (rest := []) (res := (some (.int x10))) (k_X11_isIn l b D cy N v1 0 (x7 - 1) M _ _ c10) wl_898 wl_899 wl_854 wl_857 (hd_X11_isIn).2 ⟨Nat.le_of_ble_eq_true rfl, Nat.le_of_ble_eq_true rfl⟩ ⟨Nat.le_refl _, Nat.le_refl _⟩ (Nat.le_of_ble_eq_true rfl) rfl dX11_isWriter_10 ?_
  obtain ⟨c13, h⟩ := gdS h
  obtain ⟨rfl, rfl⟩ := retS h
  exact x_zret F hr hl c13 dX11_isWriter_13
theorem dX11_isLaw_0 : decode cX11_isLaw 0 = .ok (.iload_n 1, 1) := by decide +kernel
theorem dX11_isLaw_1 : decode cX11_isLaw 1 = .ok (.iconst 0, 1) := by decide +kernel
theorem dX11_isLaw_2 : decode cX11_isLaw 2 = .ok (.aload_n 0, 1) := by decide +kernel
theorem dX11_isLaw_3 : decode cX11_isLaw 3 = .ok (.getfield 98, 3) := by decide +kernel
theorem dX11_isLaw_6 : decode cX11_isLaw 6 = .ok (.iconst 2, 1) := by decide +kernel
theorem dX11_isLaw_7 : decode cX11_isLaw 7 = .ok (.iaload, 1) := by decide +kernel
theorem dX11_isLaw_8 : decode cX11_isLaw 8 = .ok (.iconst 1, 1) := by decide +kernel
theorem dX11_isLaw_9 : decode cX11_isLaw 9 = .ok (.isub, 1) := by decide +kernel
theorem dX11_isLaw_10 : decode cX11_isLaw 10 = .ok (.invokestatic 75, 3) := by decide +kernel
theorem dX11_isLaw_13 : decode cX11_isLaw 13 = .ok (.ireturn, 1) := by decide +kernel
def fX11_isLaw (N : Nat) (v0 : Nat) (v1 : Int32) (M : Mem) : Option (Int32 × Mem) := ((fR M 11 v0 14).bind fun x3 => ((aI M x3 2).bind fun x7 => ((fX11_isIn N v1 0 (x7 - 1) M).bind fun (x10, M10) => (if vp_nar .boolean x10 = x10 then some (x10, M10) else none))))
set_option maxHeartbeats 4000000 in
set_option maxRecDepth 100000 in
theorem k_X11_isLaw (l : Launch) (b : Nat) (D : va_G) (cy : Nat → ClassId) (N : Nat) (v0 : Nat) (v1 : Int32) (M : Mem) (r : Int32) (Mf : Mem) (h : fX11_isLaw N v0 v1 M = some (r, Mf)) : Ct l yX11_isLaw cX11_isLaw 2 (some .boolean) 2 0 0 b D cy [.ref (b + v0), .int v1] M (some (.int r)) Mf := by
  refine Ct_of (own := RX11) (by decide) rfl (Nat.le_of_ble_eq_true rfl) ?_
  intro p e s m args below meth c F hr hl hmn
  unfold fX11_isLaw at h
  show X p l e ({ frames := 2, cells := 0, slots := 0, locals := 100 * 2 }) s m args below meth c (MQ below (Qm b D cy (some (.int r)) Mf) args s 0 0 (fun q => b ≤ q)) 2 b D cy 0 0 M 0 [(0, .ref (b + v0)), (1, .int v1)] []
  refine x_iload_n F dX11_isLaw_0 rfl 1 rfl ?_
  refine x_iconst F (v := 0) dX11_isLaw_1 (by decide) ?_
  refine x_aload_n F dX11_isLaw_2 rfl 0 rfl ?_
  obtain ⟨x3, c3, h⟩ := bdS h
  refine x_getR F (ci := 11) (C := RX11) (T := TX11) (N := 45) rfl ⟨by decide, rfl⟩ inU11 14 (by decide) (fun _ _ _ => rfl) wl_913 c3 dX11_isLaw_3 ?_
  refine x_iconst F (v := 2) dX11_isLaw_6 (by decide) ?_
  obtain ⟨x7, c7, h⟩ := bdS h
  refine x_aI F c7 dX11_isLaw_7 ?_
  refine x_iconst F (v := 1) dX11_isLaw_8 (by decide) ?_
  refine x_isub F dX11_isLaw_9 ?_
  obtain ⟨⟨x10, M10⟩, c10, h⟩ := bdS h
  dsimp only at h
  refine x_callS F (As := [.int v1, .int 0, .int (x7 - 1)]) (rest := []) (res := (some (.int x10))) (k_X11_isIn l b D cy N v1 0 (x7 - 1) M _ _ c10) wl_898 wl_899 wl_854 wl_857 (hd_X11_isIn).2 ⟨Nat.le_of_ble_eq_true rfl, Nat.le_of_ble_eq_true rfl⟩ ⟨Nat.le_refl _, Nat.le_refl _⟩ (Nat.le_of_ble_eq_true rfl) rfl dX11_isLaw_10 ?_
  obtain ⟨c13, h⟩ := gdS h
  obtain ⟨rfl, rfl⟩ := retS h
  exact x_zret F hr hl c13 dX11_isLaw_13
theorem dX11_isPlace_0 : decode cX11_isPlace 0 = .ok (.iload_n 2, 1) := by decide +kernel
theorem dX11_isPlace_1 : decode cX11_isPlace 1 = .ok (.iconst 0, 1) := by decide +kernel
theorem dX11_isPlace_2 : decode cX11_isPlace 2 = .ok (.aload_n 0, 1) := by decide +kernel
theorem dX11_isPlace_3 : decode cX11_isPlace 3 = .ok (.getfield 98, 3) := by decide +kernel
theorem dX11_isPlace_6 : decode cX11_isPlace 6 = .ok (.bipush 11, 2) := by decide +kernel
theorem dX11_isPlace_8 : decode cX11_isPlace 8 = .ok (.iload_n 1, 1) := by decide +kernel
theorem dX11_isPlace_9 : decode cX11_isPlace 9 = .ok (.iadd, 1) := by decide +kernel
theorem dX11_isPlace_10 : decode cX11_isPlace 10 = .ok (.iaload, 1) := by decide +kernel
theorem dX11_isPlace_11 : decode cX11_isPlace 11 = .ok (.iconst 1, 1) := by decide +kernel
theorem dX11_isPlace_12 : decode cX11_isPlace 12 = .ok (.isub, 1) := by decide +kernel
theorem dX11_isPlace_13 : decode cX11_isPlace 13 = .ok (.invokestatic 75, 3) := by decide +kernel
theorem dX11_isPlace_16 : decode cX11_isPlace 16 = .ok (.ireturn, 1) := by decide +kernel
def fX11_isPlace (N : Nat) (v0 : Nat) (v1 : Int32) (v2 : Int32) (M : Mem) : Option (Int32 × Mem) := ((fR M 11 v0 14).bind fun x3 => ((aI M x3 (11 + v1)).bind fun x10 => ((fX11_isIn N v2 0 (x10 - 1) M).bind fun (x13, M13) => (if vp_nar .boolean x13 = x13 then some (x13, M13) else none))))
set_option maxHeartbeats 4000000 in
set_option maxRecDepth 100000 in
theorem k_X11_isPlace (l : Launch) (b : Nat) (D : va_G) (cy : Nat → ClassId) (N : Nat) (v0 : Nat) (v1 : Int32) (v2 : Int32) (M : Mem) (r : Int32) (Mf : Mem) (h : fX11_isPlace N v0 v1 v2 M = some (r, Mf)) : Ct l yX11_isPlace cX11_isPlace 3 (some .boolean) 2 0 0 b D cy [.ref (b + v0), .int v1, .int v2] M (some (.int r)) Mf := by
  refine Ct_of (own := RX11) (by decide) rfl (Nat.le_of_ble_eq_true rfl) ?_
  intro p e s m args below meth c F hr hl hmn
  unfold fX11_isPlace at h
  show X p l e ({ frames := 2, cells := 0, slots := 0, locals := 100 * 2 }) s m args below meth c (MQ below (Qm b D cy (some (.int r)) Mf) args s 0 0 (fun q => b ≤ q)) 3 b D cy 0 0 M 0 [(0, .ref (b + v0)), (1, .int v1), (2, .int v2)] []
  refine x_iload_n F dX11_isPlace_0 rfl 2 rfl ?_
  refine x_iconst F (v := 0) dX11_isPlace_1 (by decide) ?_
  refine x_aload_n F dX11_isPlace_2 rfl 0 rfl ?_
  obtain ⟨x3, c3, h⟩ := bdS h
  refine x_getR F (ci := 11) (C := RX11) (T := TX11) (N := 45) rfl ⟨by decide, rfl⟩ inU11 14 (by decide) (fun _ _ _ => rfl) wl_913 c3 dX11_isPlace_3 ?_
  refine x_bipush F (v := 11) dX11_isPlace_6 (by decide) ?_
  refine x_iload_n F dX11_isPlace_8 rfl 1 rfl ?_
  refine x_iadd F dX11_isPlace_9 ?_
  obtain ⟨x10, c10, h⟩ := bdS h
  refine x_aI F c10 dX11_isPlace_10 ?_
  refine x_iconst F (v := 1) dX11_isPlace_11 (by decide) ?_
  refine x_isub F dX11_isPlace_12 ?_
  obtain ⟨⟨x13, M13⟩, c13, h⟩ := bdS h
  dsimp only at h
  refine x_callS F (As := [.int v2, .int 0, .int (x10 - 1)]) (rest := []) (res := (some (.int x13))) (k_X11_isIn l b D cy N v2 0 (x10 - 1) M _ _ c13) wl_898 wl_899 wl_854 wl_857 (hd_X11_isIn).2 ⟨Nat.le_of_ble_eq_true rfl, Nat.le_of_ble_eq_true rfl⟩ ⟨Nat.le_refl _, Nat.le_refl _⟩ (Nat.le_of_ble_eq_true rfl) rfl dX11_isPlace_13 ?_
  obtain ⟨c16, h⟩ := gdS h
  obtain ⟨rfl, rfl⟩ := retS h
  exact x_zret F hr hl c16 dX11_isPlace_16
theorem dX11_signAt_0 : decode cX11_signAt 0 = .ok (.aload_n 0, 1) := by decide +kernel
theorem dX11_signAt_1 : decode cX11_signAt 1 = .ok (.getfield 98, 3) := by decide +kernel
theorem dX11_signAt_4 : decode cX11_signAt 4 = .ok (.bipush 55, 2) := by decide +kernel
theorem dX11_signAt_6 : decode cX11_signAt 6 = .ok (.bipush 12, 2) := by decide +kernel
theorem dX11_signAt_8 : decode cX11_signAt 8 = .ok (.iload_n 1, 1) := by decide +kernel
theorem dX11_signAt_9 : decode cX11_signAt 9 = .ok (.imul, 1) := by decide +kernel
theorem dX11_signAt_10 : decode cX11_signAt 10 = .ok (.iadd, 1) := by decide +kernel
theorem dX11_signAt_11 : decode cX11_signAt 11 = .ok (.iload_n 2, 1) := by decide +kernel
theorem dX11_signAt_12 : decode cX11_signAt 12 = .ok (.iadd, 1) := by decide +kernel
theorem dX11_signAt_13 : decode cX11_signAt 13 = .ok (.iaload, 1) := by decide +kernel
theorem dX11_signAt_14 : decode cX11_signAt 14 = .ok (.ireturn, 1) := by decide +kernel
def fX11_signAt (N : Nat) (v0 : Nat) (v1 : Int32) (v2 : Int32) (M : Mem) : Option (Int32 × Mem) := ((fR M 11 v0 14).bind fun x1 => ((aI M x1 ((55 + (12 * v1)) + v2)).bind fun x13 => some (x13, M)))
set_option maxHeartbeats 4000000 in
set_option maxRecDepth 100000 in
theorem k_X11_signAt (l : Launch) (b : Nat) (D : va_G) (cy : Nat → ClassId) (N : Nat) (v0 : Nat) (v1 : Int32) (v2 : Int32) (M : Mem) (r : Int32) (Mf : Mem) (h : fX11_signAt N v0 v1 v2 M = some (r, Mf)) : Ct l yX11_signAt cX11_signAt 3 (some .int) 1 0 0 b D cy [.ref (b + v0), .int v1, .int v2] M (some (.int r)) Mf := by
  refine Ct_of (own := RX11) (by decide) rfl (Nat.le_of_ble_eq_true rfl) ?_
  intro p e s m args below meth c F hr hl hmn
  unfold fX11_signAt at h
  show X p l e ({ frames := 1, cells := 0, slots := 0, locals := 100 * 1 }) s m args below meth c (MQ below (Qm b D cy (some (.int r)) Mf) args s 0 0 (fun q => b ≤ q)) 3 b D cy 0 0 M 0 [(0, .ref (b + v0)), (1, .int v1), (2, .int v2)] []
  refine x_aload_n F dX11_signAt_0 rfl 0 rfl ?_
  obtain ⟨x1, c1, h⟩ := bdS h
  refine x_getR F (ci := 11) (C := RX11) (T := TX11) (N := 45) rfl ⟨by decide, rfl⟩ inU11 14 (by decide) (fun _ _ _ => rfl) wl_913 c1 dX11_signAt_1 ?_
  refine x_bipush F (v := 55) dX11_signAt_4 (by decide) ?_
  refine x_bipush F (v := 12) dX11_signAt_6 (by decide) ?_
  refine x_iload_n F dX11_signAt_8 rfl 1 rfl ?_
  refine x_imul F dX11_signAt_9 ?_
  refine x_iadd F dX11_signAt_10 ?_
  refine x_iload_n F dX11_signAt_11 rfl 2 rfl ?_
  refine x_iadd F dX11_signAt_12 ?_
  obtain ⟨x13, c13, h⟩ := bdS h
  refine x_aI F c13 dX11_signAt_13 ?_
  obtain ⟨rfl, rfl⟩ := retS h
  exact x_iret F hr hl dX11_signAt_14
theorem dX11_longOf_0 : decode cX11_longOf 0 = .ok (.aload_n 0, 1) := by decide +kernel
theorem dX11_longOf_1 : decode cX11_longOf 1 = .ok (.getfield 98, 3) := by decide +kernel
theorem dX11_longOf_4 : decode cX11_longOf 4 = .ok (.bipush 29, 2) := by decide +kernel
theorem dX11_longOf_6 : decode cX11_longOf 6 = .ok (.iload_n 1, 1) := by decide +kernel
theorem dX11_longOf_7 : decode cX11_longOf 7 = .ok (.iadd, 1) := by decide +kernel
theorem dX11_longOf_8 : decode cX11_longOf 8 = .ok (.iaload, 1) := by decide +kernel
theorem dX11_longOf_9 : decode cX11_longOf 9 = .ok (.bipush 99, 2) := by decide +kernel
theorem dX11_longOf_11 : decode cX11_longOf 11 = .ok (.if_icmp .le 7, 3) := by decide +kernel
theorem dX11_longOf_14 : decode cX11_longOf 14 = .ok (.iconst 3, 1) := by decide +kernel
theorem dX11_longOf_15 : decode cX11_longOf 15 = .ok (.goto 4, 3) := by decide +kernel
theorem dX11_longOf_18 : decode cX11_longOf 18 = .ok (.iconst 2, 1) := by decide +kernel
theorem dX11_longOf_19 : decode cX11_longOf 19 = .ok (.ireturn, 1) := by decide +kernel
def fX11_longOf (N : Nat) (v0 : Nat) (v1 : Int32) (M : Mem) : Option (Int32 × Mem) := ((fR M 11 v0 14).bind fun x1 => ((aI M x1 (29 + v1)).bind fun x8 => (if x8 ≤ 99 then some (2, M) else some (3, M))))
set_option maxHeartbeats 4000000 in
set_option maxRecDepth 100000 in
theorem k_X11_longOf (l : Launch) (b : Nat) (D : va_G) (cy : Nat → ClassId) (N : Nat) (v0 : Nat) (v1 : Int32) (M : Mem) (r : Int32) (Mf : Mem) (h : fX11_longOf N v0 v1 M = some (r, Mf)) : Ct l yX11_longOf cX11_longOf 2 (some .int) 1 0 0 b D cy [.ref (b + v0), .int v1] M (some (.int r)) Mf := by
  refine Ct_of (own := RX11) (by decide) rfl (Nat.le_of_ble_eq_true rfl) ?_
  intro p e s m args below meth c F hr hl hmn
  unfold fX11_longOf at h
  show X p l e ({ frames := 1, cells := 0, slots := 0, locals := 100 * 1 }) s m args below meth c (MQ below (Qm b D cy (some (.int r)) Mf) args s 0 0 (fun q => b ≤ q)) 2 b D cy 0 0 M 0 [(0, .ref (b + v0)), (1, .int v1)] []
  refine x_aload_n F dX11_longOf_0 rfl 0 rfl ?_
  obtain ⟨x1, c1, h⟩ := bdS h
  refine x_getR F (ci := 11) (C := RX11) (T := TX11) (N := 45) rfl ⟨by decide, rfl⟩ inU11 14 (by decide) (fun _ _ _ => rfl) wl_913 c1 dX11_longOf_1 ?_
  refine x_bipush F (v := 29) dX11_longOf_4 (by decide) ?_
  refine x_iload_n F dX11_longOf_6 rfl 1 rfl ?_
  refine x_iadd F dX11_longOf_7 ?_
  obtain ⟨x8, c8, h⟩ := bdS h
  refine x_aI F c8 dX11_longOf_8 ?_
  refine x_bipush F (v := 99) dX11_longOf_9 (by decide) ?_
  refine x_icmp_le F (tgt := 18) dX11_longOf_11 (by decide) (fun c11 => ?_) (fun c11 => ?_)
  · rw [if_pos c11] at h
    refine x_iconst F (v := 2) dX11_longOf_18 (by decide) ?_
    obtain ⟨rfl, rfl⟩ := retS h
    exact x_iret F hr hl dX11_longOf_19
  · rw [if_neg c11] at h
    refine x_iconst F (v := 3) dX11_longOf_14 (by decide) ?_
    refine x_goto F (tgt := 19) dX11_longOf_15 (by decide) ?_
    obtain ⟨rfl, rfl⟩ := retS h
    exact x_iret F hr hl dX11_longOf_19
theorem hd_X11_longOf : (yX11_longOf).cls = RX11 ∧ (yX11_longOf).cls ≠ "java/lang/invoke/MethodHandle" ∧ (yX11_longOf).cls ≠ "java/lang/invoke/VarHandle" ∧ (parseMethodDescriptor (yX11_longOf).desc).map (fun d => d.parameters.length) = some 1 := by decide +kernel
theorem dX11_signOf_0 : decode cX11_signOf 0 = .ok (.aload_n 0, 1) := by decide +kernel
theorem dX11_signOf_1 : decode cX11_signOf 1 = .ok (.getfield 98, 3) := by decide +kernel
theorem dX11_signOf_4 : decode cX11_signOf 4 = .ok (.bipush 29, 2) := by decide +kernel
theorem dX11_signOf_6 : decode cX11_signOf 6 = .ok (.iload_n 1, 1) := by decide +kernel
theorem dX11_signOf_7 : decode cX11_signOf 7 = .ok (.iadd, 1) := by decide +kernel
theorem dX11_signOf_8 : decode cX11_signOf 8 = .ok (.iaload, 1) := by decide +kernel
theorem dX11_signOf_9 : decode cX11_signOf 9 = .ok (.istore_n 3, 1) := by decide +kernel
theorem dX11_signOf_10 : decode cX11_signOf 10 = .ok (.aload_n 0, 1) := by decide +kernel
theorem dX11_signOf_11 : decode cX11_signOf 11 = .ok (.iload_n 1, 1) := by decide +kernel
theorem dX11_signOf_12 : decode cX11_signOf 12 = .ok (.invokevirtual 216, 3) := by decide +kernel
theorem dX11_signOf_15 : decode cX11_signOf 15 = .ok (.iconst 1, 1) := by decide +kernel
theorem dX11_signOf_16 : decode cX11_signOf 16 = .ok (.isub, 1) := by decide +kernel
theorem dX11_signOf_17 : decode cX11_signOf 17 = .ok (.istore 4, 2) := by decide +kernel
theorem dX11_signOf_19 : decode cX11_signOf 19 = .ok (.iload 4, 2) := by decide +kernel
theorem dX11_signOf_21 : decode cX11_signOf 21 = .ok (.iload_n 2, 1) := by decide +kernel
theorem dX11_signOf_22 : decode cX11_signOf 22 = .ok (.if_icmp .le 14, 3) := by decide +kernel
theorem dX11_signOf_25 : decode cX11_signOf 25 = .ok (.iload_n 3, 1) := by decide +kernel
theorem dX11_signOf_26 : decode cX11_signOf 26 = .ok (.bipush 10, 2) := by decide +kernel
theorem dX11_signOf_28 : decode cX11_signOf 28 = .ok (.idiv, 1) := by decide +kernel
theorem dX11_signOf_29 : decode cX11_signOf 29 = .ok (.istore_n 3, 1) := by decide +kernel
theorem dX11_signOf_30 : decode cX11_signOf 30 = .ok (.iinc 4 (-1), 3) := by decide +kernel
theorem dX11_signOf_33 : decode cX11_signOf 33 = .ok (.goto (-14), 3) := by decide +kernel
theorem dX11_signOf_36 : decode cX11_signOf 36 = .ok (.iload_n 3, 1) := by decide +kernel
theorem dX11_signOf_37 : decode cX11_signOf 37 = .ok (.bipush 10, 2) := by decide +kernel
theorem dX11_signOf_39 : decode cX11_signOf 39 = .ok (.irem, 1) := by decide +kernel
theorem dX11_signOf_40 : decode cX11_signOf 40 = .ok (.ireturn, 1) := by decide +kernel
def fX11_signOf_L19 (N : Nat) (v2 : Int32) : Nat → Int32 → Int32 → Mem → Option (Int32 × Mem)
  | 0, _, _, _ => none
  | n + 1, v3, v4, M => (if v4 ≤ v2 then some (v3 - v3 / 10 * 10, M) else fX11_signOf_L19 N v2 n (v3 / 10) (v4 + (-1)) M)
def fX11_signOf (N : Nat) (v0 : Nat) (v1 : Int32) (v2 : Int32) (M : Mem) : Option (Int32 × Mem) := ((fR M 11 v0 14).bind fun x1 => ((aI M x1 (29 + v1)).bind fun x8 => (if mK M v0 = 12 then ((fX11_longOf N v0 v1 M).bind fun (x12, M12) => ((fX11_signOf_L19 N v2 N x8 (x12 - 1) M12).bind fun o19 => some o19)) else none)))
set_option maxHeartbeats 4000000 in
set_option maxRecDepth 100000 in
theorem k_X11_signOf (l : Launch) (b : Nat) (D : va_G) (cy : Nat → ClassId) (N : Nat) (v0 : Nat) (v1 : Int32) (v2 : Int32) (M : Mem) (r : Int32) (Mf : Mem) (h : fX11_signOf N v0 v1 v2 M = some (r, Mf)) : Ct l yX11_signOf cX11_signOf 5 (some .int) 2 0 0 b D cy [.ref (b + v0), .int v1, .int v2] M (some (.int r)) Mf := by
  refine Ct_of (own := RX11) (by decide) rfl (Nat.le_of_ble_eq_true rfl) ?_
  intro p e s m args below meth c F hr hl hmn
  unfold fX11_signOf at h
  show X p l e ({ frames := 2, cells := 0, slots := 0, locals := 100 * 2 }) s m args below meth c (MQ below (Qm b D cy (some (.int r)) Mf) args s 0 0 (fun q => b ≤ q)) 5 b D cy 0 0 M 0 [(0, .ref (b + v0)), (1, .int v1), (2, .int v2)] []
  refine x_aload_n F dX11_signOf_0 rfl 0 rfl ?_
  obtain ⟨x1, c1, h⟩ := bdS h
  refine x_getR F (ci := 11) (C := RX11) (T := TX11) (N := 45) rfl ⟨by decide, rfl⟩ inU11 14 (by decide) (fun _ _ _ => rfl) wl_913 c1 dX11_signOf_1 ?_
  refine x_bipush F (v := 29) dX11_signOf_4 (by decide) ?_
  refine x_iload_n F dX11_signOf_6 rfl 1 rfl ?_
  refine x_iadd F dX11_signOf_7 ?_
  obtain ⟨x8, c8, h⟩ := bdS h
  refine x_aI F c8 dX11_signOf_8 ?_
  refine x_istore_n F (lv' := [(3, .int x8), (0, .ref (b + v0)), (1, .int v1), (2, .int v2)]) dX11_signOf_9 rfl (by decide) rfl ?_
  refine x_aload_n F dX11_signOf_10 rfl 1 rfl ?_
  refine x_iload_n F dX11_signOf_11 rfl 2 rfl ?_
  obtain ⟨k12, h⟩ := gdS h
  obtain ⟨⟨x12, M12⟩, c12, h⟩ := bdS h
  dsimp only at h
  refine x_callV F (As := [.int v1]) (rest := []) (res := (some (.int x12))) (ci := 11) (q := (RX11, TX11, 45)) rfl (by decide) k12 (k_X11_longOf l b D cy N v0 v1 M _ _ c12) wl_1005 wl_1006 wl_1007 wl_854 wl_1003 hd_X11_longOf ⟨Nat.le_of_ble_eq_true rfl, Nat.le_of_ble_eq_true rfl⟩ ⟨Nat.le_refl _, Nat.le_refl _⟩ (Nat.le_of_ble_eq_true rfl) rfl dX11_signOf_12 ?_
  refine x_iconst F (v := 1) dX11_signOf_15 (by decide) ?_
  refine x_isub F dX11_signOf_16 ?_
  refine x_istore F (lv' := [(4, .int (x12 - 1)), (3, .int x8), (0, .ref (b + v0)), (1, .int v1), (2, .int v2)]) dX11_signOf_17 (by decide) rfl ?_
  have L19 : ∀ (v2 : Int32) (n : Nat) (v3 : Int32) (v4 : Int32) (M : Mem) (o : Int32 × Mem), fX11_signOf_L19 N v2 n v3 v4 M = some o → (∀ (r' : Int32) (M' : Mem), o = (r', M') → r' = r ∧ M' = Mf) → X p l e ({ frames := 2, cells := 0, slots := 0, locals := 100 * 2 }) s m args below meth c (MQ below (Qm b D cy (some (.int r)) Mf) args s 0 0 (fun q => b ≤ q)) 5 b D cy 0 0 M 19 [(2, .int v2), (3, .int v3), (4, .int v4)] [] := by
    intro v2 n
    induction n with
    | zero => intro v3 v4 M o h; exact absurd h (by rw [fX11_signOf_L19]; exact fun z => by cases z)
    | succ n ih =>
      intro v3 v4 M o h hR
      rw [fX11_signOf_L19] at h
      refine x_iload F dX11_signOf_19 2 rfl ?_
      refine x_iload_n F dX11_signOf_21 rfl 0 rfl ?_
      refine x_icmp_le F (tgt := 36) dX11_signOf_22 (by decide) (fun c22 => ?_) (fun c22 => ?_)
      · rw [if_pos c22] at h
        refine x_iload_n F dX11_signOf_36 rfl 1 rfl ?_
        refine x_bipush F (v := 10) dX11_signOf_37 (by decide) ?_
        refine x_irem F dX11_signOf_39 (by decide) ?_
        obtain rfl := Option.some.inj h
        obtain ⟨rfl, rfl⟩ := hR _ _ rfl
        exact x_iret F hr hl dX11_signOf_40
      · rw [if_neg c22] at h
        refine x_iload_n F dX11_signOf_25 rfl 1 rfl ?_
        refine x_bipush F (v := 10) dX11_signOf_26 (by decide) ?_
        refine x_idiv F dX11_signOf_28 (by decide) ?_
        refine x_istore_n F (lv' := [(3, .int (v3 / 10)), (2, .int v2), (4, .int v4)]) dX11_signOf_29 rfl (by decide) rfl ?_
        refine x_iinc F (v := v4 + (-1)) (lv' := [(4, .int (v4 + (-1))), (3, .int (v3 / 10)), (2, .int v2)]) dX11_signOf_30 2 rfl rfl (by decide) rfl ?_
        refine x_goto F (tgt := 19) dX11_signOf_33 (by decide) ?_
        refine x_sub [2, 1, 0] rfl ?_
        exact ih (v3 / 10) (v4 + (-1)) M o h hR
  obtain ⟨o19, h19, h⟩ := bdS h
  refine x_sub [4, 1, 0] rfl ?_
  refine L19 v2 N x8 (x12 - 1) M12 o19 h19 (fun r' M' e => ?_)
  · subst e
    try dsimp only at h
    obtain ⟨rfl, rfl⟩ := retS h; exact ⟨rfl, rfl⟩
theorem dX11_strokesOf_0 : decode cX11_strokesOf 0 = .ok (.iload_n 0, 1) := by decide +kernel
theorem dX11_strokesOf_1 : decode cX11_strokesOf 1 = .ok (.tableswitch 58 1 8 #[47, 49, 49, 51, 49, 58, 53, 55], 47) := by decide +kernel
theorem dX11_strokesOf_48 : decode cX11_strokesOf 48 = .ok (.iconst 1, 1) := by decide +kernel
theorem dX11_strokesOf_49 : decode cX11_strokesOf 49 = .ok (.ireturn, 1) := by decide +kernel
theorem dX11_strokesOf_50 : decode cX11_strokesOf 50 = .ok (.iconst 5, 1) := by decide +kernel
theorem dX11_strokesOf_51 : decode cX11_strokesOf 51 = .ok (.ireturn, 1) := by decide +kernel
theorem dX11_strokesOf_52 : decode cX11_strokesOf 52 = .ok (.iconst 4, 1) := by decide +kernel
theorem dX11_strokesOf_53 : decode cX11_strokesOf 53 = .ok (.ireturn, 1) := by decide +kernel
theorem dX11_strokesOf_54 : decode cX11_strokesOf 54 = .ok (.iconst 3, 1) := by decide +kernel
theorem dX11_strokesOf_55 : decode cX11_strokesOf 55 = .ok (.ireturn, 1) := by decide +kernel
theorem dX11_strokesOf_56 : decode cX11_strokesOf 56 = .ok (.bipush 7, 2) := by decide +kernel
theorem dX11_strokesOf_58 : decode cX11_strokesOf 58 = .ok (.ireturn, 1) := by decide +kernel
theorem dX11_strokesOf_59 : decode cX11_strokesOf 59 = .ok (.bipush 6, 2) := by decide +kernel
theorem dX11_strokesOf_61 : decode cX11_strokesOf 61 = .ok (.ireturn, 1) := by decide +kernel
def fX11_strokesOf (N : Nat) (v0 : Int32) (M : Mem) : Option (Int32 × Mem) := (if v0 = 1 then some (1, M) else (if v0 = 2 then some (5, M) else (if v0 = 3 then some (5, M) else (if v0 = 4 then some (4, M) else (if v0 = 5 then some (5, M) else (if v0 = 6 then some (6, M) else (if v0 = 7 then some (3, M) else (if v0 = 8 then some (7, M) else some (6, M)))))))))
set_option maxHeartbeats 4000000 in
set_option maxRecDepth 100000 in
theorem k_X11_strokesOf (l : Launch) (b : Nat) (D : va_G) (cy : Nat → ClassId) (N : Nat) (v0 : Int32) (M : Mem) (r : Int32) (Mf : Mem) (h : fX11_strokesOf N v0 M = some (r, Mf)) : Ct l yX11_strokesOf cX11_strokesOf 1 (some .int) 1 0 0 b D cy [.int v0] M (some (.int r)) Mf := by
  refine Ct_of (own := RX11) (by decide) rfl (Nat.le_of_ble_eq_true rfl) ?_
  intro p e s m args below meth c F hr hl hmn
  unfold fX11_strokesOf at h
  show X p l e ({ frames := 1, cells := 0, slots := 0, locals := 100 * 1 }) s m args below meth c (MQ below (Qm b D cy (some (.int r)) Mf) args s 0 0 (fun q => b ≤ q)) 1 b D cy 0 0 M 0 [(0, .int v0)] []
  refine x_iload_n F dX11_strokesOf_0 rfl 0 rfl ?_
  by_cases c1_1 : v0 = 1
  · rw [if_pos c1_1] at h
    refine x_tableIn F (off := 47) (tgt := 48) dX11_strokesOf_1 (by rw [c1_1]; decide) (by rw [c1_1]; decide) (by rw [c1_1]; decide) (by decide) ?_
    refine x_iconst F (v := 1) dX11_strokesOf_48 (by decide) ?_
    obtain ⟨rfl, rfl⟩ := retS h
    exact x_iret F hr hl dX11_strokesOf_49
  rw [if_neg c1_1] at h
  by_cases c1_2 : v0 = 2
  · rw [if_pos c1_2] at h
    refine x_tableIn F (off := 49) (tgt := 50) dX11_strokesOf_1 (by rw [c1_2]; decide) (by rw [c1_2]; decide) (by rw [c1_2]; decide) (by decide) ?_
    refine x_iconst F (v := 5) dX11_strokesOf_50 (by decide) ?_
    obtain ⟨rfl, rfl⟩ := retS h
    exact x_iret F hr hl dX11_strokesOf_51
  rw [if_neg c1_2] at h
  by_cases c1_3 : v0 = 3
  · rw [if_pos c1_3] at h
    refine x_tableIn F (off := 49) (tgt := 50) dX11_strokesOf_1 (by rw [c1_3]; decide) (by rw [c1_3]; decide) (by rw [c1_3]; decide) (by decide) ?_
    refine x_iconst F (v := 5) dX11_strokesOf_50 (by decide) ?_
    obtain ⟨rfl, rfl⟩ := retS h
    exact x_iret F hr hl dX11_strokesOf_51
  rw [if_neg c1_3] at h
  by_cases c1_4 : v0 = 4
  · rw [if_pos c1_4] at h
    refine x_tableIn F (off := 51) (tgt := 52) dX11_strokesOf_1 (by rw [c1_4]; decide) (by rw [c1_4]; decide) (by rw [c1_4]; decide) (by decide) ?_
    refine x_iconst F (v := 4) dX11_strokesOf_52 (by decide) ?_
    obtain ⟨rfl, rfl⟩ := retS h
    exact x_iret F hr hl dX11_strokesOf_53
  rw [if_neg c1_4] at h
  by_cases c1_5 : v0 = 5
  · rw [if_pos c1_5] at h
    refine x_tableIn F (off := 49) (tgt := 50) dX11_strokesOf_1 (by rw [c1_5]; decide) (by rw [c1_5]; decide) (by rw [c1_5]; decide) (by decide) ?_
    refine x_iconst F (v := 5) dX11_strokesOf_50 (by decide) ?_
    obtain ⟨rfl, rfl⟩ := retS h
    exact x_iret F hr hl dX11_strokesOf_51
  rw [if_neg c1_5] at h
  by_cases c1_6 : v0 = 6
  · rw [if_pos c1_6] at h
    refine x_tableIn F (off := 58) (tgt := 59) dX11_strokesOf_1 (by rw [c1_6]; decide) (by rw [c1_6]; decide) (by rw [c1_6]; decide) (by decide) ?_
    refine x_bipush F (v := 6) dX11_strokesOf_59 (by decide) ?_
    obtain ⟨rfl, rfl⟩ := retS h
    exact x_iret F hr hl dX11_strokesOf_61
  rw [if_neg c1_6] at h
  by_cases c1_7 : v0 = 7
  · rw [if_pos c1_7] at h
    refine x_tableIn F (off := 53) (tgt := 54) dX11_strokesOf_1 (by rw [c1_7]; decide) (by rw [c1_7]; decide) (by rw [c1_7]; decide) (by decide) ?_
    refine x_iconst F (v := 3) dX11_strokesOf_54 (by decide) ?_
    obtain ⟨rfl, rfl⟩ := retS h
    exact x_iret F hr hl dX11_strokesOf_55
  rw [if_neg c1_7] at h
  by_cases c1_8 : v0 = 8
  · rw [if_pos c1_8] at h
    refine x_tableIn F (off := 55) (tgt := 56) dX11_strokesOf_1 (by rw [c1_8]; decide) (by rw [c1_8]; decide) (by rw [c1_8]; decide) (by decide) ?_
    refine x_bipush F (v := 7) dX11_strokesOf_56 (by decide) ?_
    obtain ⟨rfl, rfl⟩ := retS h
    exact x_iret F hr hl dX11_strokesOf_58
  rw [if_neg c1_8] at h
  refine x_tableOut F (tgt := 59) dX11_strokesOf_1 (by have q0 := sw_ne (t := 1) c1_1 (by decide); have q1 := sw_ne (t := 2) c1_2 (by decide); have q2 := sw_ne (t := 3) c1_3 (by decide); have q3 := sw_ne (t := 4) c1_4 (by decide); have q4 := sw_ne (t := 5) c1_5 (by decide); have q5 := sw_ne (t := 6) c1_6 (by decide); have q6 := sw_ne (t := 7) c1_7 (by decide); have q7 := sw_ne (t := 8) c1_8 (by decide); omega) (by decide) ?_
  refine x_bipush F (v := 6) dX11_strokesOf_59 (by decide) ?_
  obtain ⟨rfl, rfl⟩ := retS h
  exact x_iret F hr hl dX11_strokesOf_61
theorem hd_X11_signAt : (yX11_signAt).cls = RX11 ∧ (yX11_signAt).cls ≠ "java/lang/invoke/MethodHandle" ∧ (yX11_signAt).cls ≠ "java/lang/invoke/VarHandle" ∧ (parseMethodDescriptor (yX11_signAt).desc).map (fun d => d.parameters.length) = some 2 := by decide +kernel
theorem hd_X11_signOf : (yX11_signOf).cls = RX11 ∧ (yX11_signOf).cls ≠ "java/lang/invoke/MethodHandle" ∧ (yX11_signOf).cls ≠ "java/lang/invoke/VarHandle" ∧ (parseMethodDescriptor (yX11_signOf).desc).map (fun d => d.parameters.length) = some 2 := by decide +kernel
theorem hd_X11_strokesOf : (yX11_strokesOf).cls = RX11 ∧ (yX11_strokesOf).cls ≠ "java/lang/invoke/MethodHandle" ∧ (yX11_strokesOf).cls ≠ "java/lang/invoke/VarHandle" ∧ (parseMethodDescriptor (yX11_strokesOf).desc).map (fun d => d.parameters.length) = some 1 := by decide +kernel
theorem dX11_lacks_0 : decode cX11_lacks 0 = .ok (.iconst 0, 1) := by decide +kernel
theorem dX11_lacks_1 : decode cX11_lacks 1 = .ok (.istore 4, 2) := by decide +kernel
theorem dX11_lacks_3 : decode cX11_lacks 3 = .ok (.iconst 0, 1) := by decide +kernel
theorem dX11_lacks_4 : decode cX11_lacks 4 = .ok (.istore 5, 2) := by decide +kernel
theorem dX11_lacks_6 : decode cX11_lacks 6 = .ok (.iload 5, 2) := by decide +kernel
theorem dX11_lacks_8 : decode cX11_lacks 8 = .ok (.aload_n 0, 1) := by decide +kernel
theorem dX11_lacks_9 : decode cX11_lacks 9 = .ok (.iload_n 1, 1) := by decide +kernel
theorem dX11_lacks_10 : decode cX11_lacks 10 = .ok (.invokevirtual 216, 3) := by decide +kernel
theorem dX11_lacks_13 : decode cX11_lacks 13 = .ok (.if_icmp .ge 59, 3) := by decide +kernel
theorem dX11_lacks_16 : decode cX11_lacks 16 = .ok (.aload_n 0, 1) := by decide +kernel
theorem dX11_lacks_17 : decode cX11_lacks 17 = .ok (.iload_n 2, 1) := by decide +kernel
theorem dX11_lacks_18 : decode cX11_lacks 18 = .ok (.iload_n 3, 1) := by decide +kernel
theorem dX11_lacks_19 : decode cX11_lacks 19 = .ok (.iload 5, 2) := by decide +kernel
theorem dX11_lacks_21 : decode cX11_lacks 21 = .ok (.iadd, 1) := by decide +kernel
theorem dX11_lacks_22 : decode cX11_lacks 22 = .ok (.invokevirtual 219, 3) := by decide +kernel
theorem dX11_lacks_25 : decode cX11_lacks 25 = .ok (.istore 6, 2) := by decide +kernel
theorem dX11_lacks_27 : decode cX11_lacks 27 = .ok (.iload 6, 2) := by decide +kernel
theorem dX11_lacks_29 : decode cX11_lacks 29 = .ok (.aload_n 0, 1) := by decide +kernel
theorem dX11_lacks_30 : decode cX11_lacks 30 = .ok (.iload_n 1, 1) := by decide +kernel
theorem dX11_lacks_31 : decode cX11_lacks 31 = .ok (.iload 5, 2) := by decide +kernel
theorem dX11_lacks_33 : decode cX11_lacks 33 = .ok (.invokevirtual 223, 3) := by decide +kernel
theorem dX11_lacks_36 : decode cX11_lacks 36 = .ok (.if_icmp .ne 6, 3) := by decide +kernel
theorem dX11_lacks_39 : decode cX11_lacks 39 = .ok (.goto 27, 3) := by decide +kernel
theorem dX11_lacks_42 : decode cX11_lacks 42 = .ok (.iload 6, 2) := by decide +kernel
theorem dX11_lacks_44 : decode cX11_lacks 44 = .ok (.iconst (-1), 1) := by decide +kernel
theorem dX11_lacks_45 : decode cX11_lacks 45 = .ok (.if_icmp .eq 6, 3) := by decide +kernel
theorem dX11_lacks_48 : decode cX11_lacks 48 = .ok (.ldc 226, 2) := by decide +kernel
theorem dX11_lacks_50 : decode cX11_lacks 50 = .ok (.ireturn, 1) := by decide +kernel
theorem dX11_lacks_51 : decode cX11_lacks 51 = .ok (.iload 4, 2) := by decide +kernel
theorem dX11_lacks_53 : decode cX11_lacks 53 = .ok (.aload_n 0, 1) := by decide +kernel
theorem dX11_lacks_54 : decode cX11_lacks 54 = .ok (.iload_n 1, 1) := by decide +kernel
theorem dX11_lacks_55 : decode cX11_lacks 55 = .ok (.iload 5, 2) := by decide +kernel
theorem dX11_lacks_57 : decode cX11_lacks 57 = .ok (.invokevirtual 223, 3) := by decide +kernel
theorem dX11_lacks_60 : decode cX11_lacks 60 = .ok (.invokestatic 227, 3) := by decide +kernel
theorem dX11_lacks_63 : decode cX11_lacks 63 = .ok (.iadd, 1) := by decide +kernel
theorem dX11_lacks_64 : decode cX11_lacks 64 = .ok (.istore 4, 2) := by decide +kernel
theorem dX11_lacks_66 : decode cX11_lacks 66 = .ok (.iinc 5 1, 3) := by decide +kernel
theorem dX11_lacks_69 : decode cX11_lacks 69 = .ok (.goto (-63), 3) := by decide +kernel
theorem dX11_lacks_72 : decode cX11_lacks 72 = .ok (.iload 4, 2) := by decide +kernel
theorem dX11_lacks_74 : decode cX11_lacks 74 = .ok (.ireturn, 1) := by decide +kernel
def fX11_lacks_L6 (N : Nat) (v0 : Nat) (v1 : Int32) (v2 : Int32) (v3 : Int32) : Nat → Int32 → Int32 → Mem → Option (Int32 × Mem)
  | 0, _, _, _ => none
  | n + 1, v4, v5, M => (if mK M v0 = 12 then ((fX11_longOf N v0 v1 M).bind fun (x10, M10) => (if x10 ≤ v5 then some (v4, M10) else (if mK M10 v0 = 12 then ((fX11_signAt N v0 v2 (v3 + v5) M10).bind fun (x22, M22) => (if mK M22 v0 = 12 then ((fX11_signOf N v0 v1 v5 M22).bind fun (x33, M33) => (if x22 = x33 then fX11_lacks_L6 N v0 v1 v2 v3 n v4 (v5 + 1) M33 else (if x22 = ((-1)) then (if mK M33 v0 = 12 then ((fX11_signOf N v0 v1 v5 M33).bind fun (x57, M57) => ((fX11_strokesOf N x57 M57).bind fun (x60, M60) => fX11_lacks_L6 N v0 v1 v2 v3 n (v4 + x60) (v5 + 1) M60)) else none) else some ((100000), M33)))) else none)) else none))) else none)
def fX11_lacks (N : Nat) (v0 : Nat) (v1 : Int32) (v2 : Int32) (v3 : Int32) (M : Mem) : Option (Int32 × Mem) := ((fX11_lacks_L6 N v0 v1 v2 v3 N 0 0 M).bind fun o6 => some o6)
set_option maxHeartbeats 4000000 in
set_option maxRecDepth 100000 in
theorem k_X11_lacks (l : Launch) (b : Nat) (D : va_G) (cy : Nat → ClassId) (N : Nat) (v0 : Nat) (v1 : Int32) (v2 : Int32) (v3 : Int32) (M : Mem) (r : Int32) (Mf : Mem) (h : fX11_lacks N v0 v1 v2 v3 M = some (r, Mf)) : Ct l yX11_lacks cX11_lacks 7 (some .int) 3 0 0 b D cy [.ref (b + v0), .int v1, .int v2, .int v3] M (some (.int r)) Mf := by
  refine Ct_of (own := RX11) (by decide) rfl (Nat.le_of_ble_eq_true rfl) ?_
  intro p e s m args below meth c F hr hl hmn
  unfold fX11_lacks at h
  show X p l e ({ frames := 3, cells := 0, slots := 0, locals := 100 * 3 }) s m args below meth c (MQ below (Qm b D cy (some (.int r)) Mf) args s 0 0 (fun q => b ≤ q)) 7 b D cy 0 0 M 0 [(0, .ref (b + v0)), (1, .int v1), (2, .int v2), (3, .int v3)] []
  refine x_iconst F (v := 0) dX11_lacks_0 (by decide) ?_
  refine x_istore F (lv' := [(4, .int 0), (0, .ref (b + v0)), (1, .int v1), (2, .int v2), (3, .int v3)]) dX11_lacks_1 (by decide) rfl ?_
  refine x_iconst F (v := 0) dX11_lacks_3 (by decide) ?_
  refine x_istore F (lv' := [(5, .int 0), (4, .int 0), (0, .ref (b + v0)), (1, .int v1), (2, .int v2), (3, .int v3)]) dX11_lacks_4 (by decide) rfl ?_
  have L6 : ∀ (v0 : Nat) (v1 : Int32) (v2 : Int32) (v3 : Int32) (n : Nat) (v4 : Int32) (v5 : Int32) (M : Mem) (o : Int32 × Mem), fX11_lacks_L6 N v0 v1 v2 v3 n v4 v5 M = some o → (∀ (r' : Int32) (M' : Mem), o = (r', M') → r' = r ∧ M' = Mf) → X p l e ({ frames := 3, cells := 0, slots := 0, locals := 100 * 3 }) s m args below meth c (MQ below (Qm b D cy (some (.int r)) Mf) args s 0 0 (fun q => b ≤ q)) 7 b D cy 0 0 M 6 [(0, .ref (b + v0)), (1, .int v1), (2, .int v2), (3, .int v3), (4, .int v4), (5, .int v5)] [] := by
    intro v0 v1 v2 v3 n
    induction n with
    | zero => intro v4 v5 M o h; exact absurd h (by rw [fX11_lacks_L6]; exact fun z => by cases z)
    | succ n ih =>
      intro v4 v5 M o h hR
      rw [fX11_lacks_L6] at h
      refine x_iload F dX11_lacks_6 5 rfl ?_
      refine x_aload_n F dX11_lacks_8 rfl 0 rfl ?_
      refine x_iload_n F dX11_lacks_9 rfl 1 rfl ?_
      obtain ⟨k10, h⟩ := gdS h
      obtain ⟨⟨x10, M10⟩, c10, h⟩ := bdS h
      dsimp only at h
      refine x_callV F (As := [.int v1]) (rest := [.int v5]) (res := (some (.int x10))) (ci := 11) (q := (RX11, TX11, 45)) rfl (by decide) k10 (k_X11_longOf l b D cy N v0 v1 M _ _ c10) wl_1005 wl_1006 wl_1007 wl_854 wl_1003 hd_X11_longOf ⟨Nat.le_of_ble_eq_true rfl, Nat.le_of_ble_eq_true rfl⟩ ⟨Nat.le_refl _, Nat.le_refl _⟩ (Nat.le_of_ble_eq_true rfl) rfl dX11_lacks_10 ?_
      refine x_icmp_ge F (tgt := 72) dX11_lacks_13 (by decide) (fun c13 => ?_) (fun c13 => ?_)
      · rw [if_pos c13] at h
        refine x_iload F dX11_lacks_72 4 rfl ?_
        obtain rfl := Option.some.inj h
        obtain ⟨rfl, rfl⟩ := hR _ _ rfl
        exact x_iret F hr hl dX11_lacks_74
      · rw [if_neg c13] at h
        refine x_aload_n F dX11_lacks_16 rfl 0 rfl ?_
        refine x_iload_n F dX11_lacks_17 rfl 2 rfl ?_
        refine x_iload_n F dX11_lacks_18 rfl 3 rfl ?_
        refine x_iload F dX11_lacks_19 5 rfl ?_
        refine x_iadd F dX11_lacks_21 ?_
        obtain ⟨k22, h⟩ := gdS h
        obtain ⟨⟨x22, M22⟩, c22, h⟩ := bdS h
        dsimp only at h
        refine x_callV F (As := [.int v2, .int (v3 + v5)]) (rest := []) (res := (some (.int x22))) (ci := 11) (q := (RX11, TX11, 45)) rfl (by decide) k22 (k_X11_signAt l b D cy N v0 v2 (v3 + v5) M10 _ _ c22) wl_1011 wl_1012 wl_1013 wl_854 wl_1002 hd_X11_signAt ⟨Nat.le_of_ble_eq_true rfl, Nat.le_of_ble_eq_true rfl⟩ ⟨Nat.le_refl _, Nat.le_refl _⟩ (Nat.le_of_ble_eq_true rfl) rfl dX11_lacks_22 ?_
        refine x_istore F (lv' := [(6, .int x22), (0, .ref (b + v0)), (1, .int v1), (2, .int v2), (3, .int v3), (4, .int v4), (5, .int v5)]) dX11_lacks_25 (by decide) rfl ?_
        refine x_iload F dX11_lacks_27 0 rfl ?_
        refine x_aload_n F dX11_lacks_29 rfl 1 rfl ?_
        refine x_iload_n F dX11_lacks_30 rfl 2 rfl ?_
        refine x_iload F dX11_lacks_31 6 rfl ?_
        obtain ⟨k33, h⟩ := gdS h
        obtain ⟨⟨x33, M33⟩, c33, h⟩ := bdS h
        dsimp only at h
        refine x_callV F (As := [.int v1, .int v5]) (rest := [.int x22]) (res := (some (.int x33))) (ci := 11) (q := (RX11, TX11, 45)) rfl (by decide) k33 (k_X11_signOf l b D cy N v0 v1 v5 M22 _ _ c33) wl_1014 wl_1015 wl_1016 wl_854 wl_1004 hd_X11_signOf ⟨Nat.le_of_ble_eq_true rfl, Nat.le_of_ble_eq_true rfl⟩ ⟨Nat.le_refl _, Nat.le_refl _⟩ (Nat.le_of_ble_eq_true rfl) rfl dX11_lacks_33 ?_
        refine x_icmp_ne F (tgt := 42) dX11_lacks_36 (by decide) (fun c36 => ?_) (fun c36 => ?_)
        · rw [if_neg c36] at h
          refine x_iload F dX11_lacks_42 0 rfl ?_
          refine x_iconst F (v := (-1)) dX11_lacks_44 (by decide) ?_
          refine x_icmp_eq F (tgt := 51) dX11_lacks_45 (by decide) (fun c45 => ?_) (fun c45 => ?_)
          · rw [if_pos c45] at h
            refine x_iload F dX11_lacks_51 5 rfl ?_
            refine x_aload_n F dX11_lacks_53 rfl 1 rfl ?_
            refine x_iload_n F dX11_lacks_54 rfl 2 rfl ?_
            refine x_iload F dX11_lacks_55 6 rfl ?_
            obtain ⟨k57, h⟩ := gdS h
            obtain ⟨⟨x57, M57⟩, c57, h⟩ := bdS h
            dsimp only at h
            refine x_callV F (As := [.int v1, .int v5]) (rest := [.int v4]) (res := (some (.int x57))) (ci := 11) (q := (RX11, TX11, 45)) rfl (by decide) k57 (k_X11_signOf l b D cy N v0 v1 v5 M33 _ _ c57) wl_1014 wl_1015 wl_1016 wl_854 wl_1004 hd_X11_signOf ⟨Nat.le_of_ble_eq_true rfl, Nat.le_of_ble_eq_true rfl⟩ ⟨Nat.le_refl _, Nat.le_refl _⟩ (Nat.le_of_ble_eq_true rfl) rfl dX11_lacks_57 ?_
            obtain ⟨⟨x60, M60⟩, c60, h⟩ := bdS h
            dsimp only at h
            refine x_callS F (As := [.int x57]) (rest := [.int v4]) (res := (some (.int x60))) (k_X11_strokesOf l b D cy N x57 M57 _ _ c60) wl_1017 wl_1018 wl_854 wl_1008 (hd_X11_strokesOf).2 ⟨Nat.le_of_ble_eq_true rfl, Nat.le_of_ble_eq_true rfl⟩ ⟨Nat.le_refl _, Nat.le_refl _⟩ (Nat.le_of_ble_eq_true rfl) rfl dX11_lacks_60 ?_
            refine x_iadd F dX11_lacks_63 ?_
            refine x_istore F (lv' := [(4, .int (v4 + x60)), (6, .int x22), (0, .ref (b + v0)), (1, .int v1), (2, .int v2), (3, .int v3), (5, .int v5)]) dX11_lacks_64 (by decide) rfl ?_
            refine x_iinc F (v := v5 + 1) (lv' := [(5, .int (v5 + 1)), (4, .int (v4 + x60)), (6, .int x22), (0, .ref (b + v0)), (1, .int v1), (2, .int v2), (3, .int v3)]) dX11_lacks_66 6 rfl rfl (by decide) rfl ?_
            refine x_goto F (tgt := 6) dX11_lacks_69 (by decide) ?_
            refine x_sub [3, 4, 5, 6, 1, 0] rfl ?_
            exact ih (v4 + x60) (v5 + 1) M60 o h hR
          · rw [if_neg c45] at h
            refine x_ldc F (v := (100000)) dX11_lacks_48 wl_1010 ?_
            obtain rfl := Option.some.inj h
            obtain ⟨rfl, rfl⟩ := hR _ _ rfl
            exact x_iret F hr hl dX11_lacks_50
        · rw [if_pos c36] at h
          refine x_goto F (tgt := 66) dX11_lacks_39 (by decide) ?_
          refine x_iinc F (v := v5 + 1) (lv' := [(5, .int (v5 + 1)), (6, .int x22), (0, .ref (b + v0)), (1, .int v1), (2, .int v2), (3, .int v3), (4, .int v4)]) dX11_lacks_66 6 rfl rfl (by decide) rfl ?_
          refine x_goto F (tgt := 6) dX11_lacks_69 (by decide) ?_
          refine x_sub [2, 3, 4, 5, 6, 0] rfl ?_
          exact ih v4 (v5 + 1) M33 o h hR
  obtain ⟨o6, h6, h⟩ := bdS h
  refine x_sub [2, 3, 4, 5, 1, 0] rfl ?_
  refine L6 v0 v1 v2 v3 N 0 0 M o6 h6 (fun r' M' e => ?_)
  · subst e
    try dsimp only at h
    obtain ⟨rfl, rfl⟩ := retS h; exact ⟨rfl, rfl⟩
theorem hd_X11_lacks : (yX11_lacks).cls = RX11 ∧ (yX11_lacks).cls ≠ "java/lang/invoke/MethodHandle" ∧ (yX11_lacks).cls ≠ "java/lang/invoke/VarHandle" ∧ (parseMethodDescriptor (yX11_lacks).desc).map (fun d => d.parameters.length) = some 3 := by decide +kernel
theorem hd_X11_least : (yX11_least).cls = RX11 ∧ (yX11_least).cls ≠ "java/lang/invoke/MethodHandle" ∧ (yX11_least).cls ≠ "java/lang/invoke/VarHandle" ∧ (parseMethodDescriptor (yX11_least).desc).map (fun d => d.parameters.length) = some 2 := by decide +kernel
theorem dX11_leastLacks_0 : decode cX11_leastLacks 0 = .ok (.ldc 226, 2) := by decide +kernel
theorem dX11_leastLacks_2 : decode cX11_leastLacks 2 = .ok (.istore_n 3, 1) := by decide +kernel
theorem dX11_leastLacks_3 : decode cX11_leastLacks 3 = .ok (.iconst 0, 1) := by decide +kernel
theorem dX11_leastLacks_4 : decode cX11_leastLacks 4 = .ok (.istore 4, 2) := by decide +kernel
theorem dX11_leastLacks_6 : decode cX11_leastLacks 6 = .ok (.iload 4, 2) := by decide +kernel
theorem dX11_leastLacks_8 : decode cX11_leastLacks 8 = .ok (.aload_n 0, 1) := by decide +kernel
theorem dX11_leastLacks_9 : decode cX11_leastLacks 9 = .ok (.iload_n 1, 1) := by decide +kernel
theorem dX11_leastLacks_10 : decode cX11_leastLacks 10 = .ok (.invokevirtual 216, 3) := by decide +kernel
theorem dX11_leastLacks_13 : decode cX11_leastLacks 13 = .ok (.iadd, 1) := by decide +kernel
theorem dX11_leastLacks_14 : decode cX11_leastLacks 14 = .ok (.aload_n 0, 1) := by decide +kernel
theorem dX11_leastLacks_15 : decode cX11_leastLacks 15 = .ok (.getfield 98, 3) := by decide +kernel
theorem dX11_leastLacks_18 : decode cX11_leastLacks 18 = .ok (.bipush 11, 2) := by decide +kernel
theorem dX11_leastLacks_20 : decode cX11_leastLacks 20 = .ok (.iload_n 2, 1) := by decide +kernel
theorem dX11_leastLacks_21 : decode cX11_leastLacks 21 = .ok (.iadd, 1) := by decide +kernel
theorem dX11_leastLacks_22 : decode cX11_leastLacks 22 = .ok (.iaload, 1) := by decide +kernel
theorem dX11_leastLacks_23 : decode cX11_leastLacks 23 = .ok (.if_icmp .gt 22, 3) := by decide +kernel
theorem dX11_leastLacks_26 : decode cX11_leastLacks 26 = .ok (.iload_n 3, 1) := by decide +kernel
theorem dX11_leastLacks_27 : decode cX11_leastLacks 27 = .ok (.aload_n 0, 1) := by decide +kernel
theorem dX11_leastLacks_28 : decode cX11_leastLacks 28 = .ok (.iload_n 1, 1) := by decide +kernel
theorem dX11_leastLacks_29 : decode cX11_leastLacks 29 = .ok (.iload_n 2, 1) := by decide +kernel
theorem dX11_leastLacks_30 : decode cX11_leastLacks 30 = .ok (.iload 4, 2) := by decide +kernel
theorem dX11_leastLacks_32 : decode cX11_leastLacks 32 = .ok (.invokevirtual 230, 3) := by decide +kernel
theorem dX11_leastLacks_35 : decode cX11_leastLacks 35 = .ok (.invokestatic 234, 3) := by decide +kernel
theorem dX11_leastLacks_38 : decode cX11_leastLacks 38 = .ok (.istore_n 3, 1) := by decide +kernel
theorem dX11_leastLacks_39 : decode cX11_leastLacks 39 = .ok (.iinc 4 1, 3) := by decide +kernel
theorem dX11_leastLacks_42 : decode cX11_leastLacks 42 = .ok (.goto (-36), 3) := by decide +kernel
theorem dX11_leastLacks_45 : decode cX11_leastLacks 45 = .ok (.iload_n 3, 1) := by decide +kernel
theorem dX11_leastLacks_46 : decode cX11_leastLacks 46 = .ok (.ireturn, 1) := by decide +kernel
def fX11_leastLacks_L6 (N : Nat) (v0 : Nat) (v1 : Int32) (v2 : Int32) : Nat → Int32 → Int32 → Mem → Option (Int32 × Mem)
  | 0, _, _, _ => none
  | n + 1, v3, v4, M => (if mK M v0 = 12 then ((fX11_longOf N v0 v1 M).bind fun (x10, M10) => ((fR M10 11 v0 14).bind fun x15 => ((aI M10 x15 (11 + v2)).bind fun x22 => (if x22 < (v4 + x10) then some (v3, M10) else (if mK M10 v0 = 12 then ((fX11_lacks N v0 v1 v2 v4 M10).bind fun (x32, M32) => ((fX11_least N v3 x32 M32).bind fun (x35, M35) => fX11_leastLacks_L6 N v0 v1 v2 n x35 (v4 + 1) M35)) else none))))) else none)
def fX11_leastLacks (N : Nat) (v0 : Nat) (v1 : Int32) (v2 : Int32) (M : Mem) : Option (Int32 × Mem) := ((fX11_leastLacks_L6 N v0 v1 v2 N ((100000)) 0 M).bind fun o6 => some o6)
set_option maxHeartbeats 4000000 in
set_option maxRecDepth 100000 in
theorem k_X11_leastLacks (l : Launch) (b : Nat) (D : va_G) (cy : Nat → ClassId) (N : Nat) (v0 : Nat) (v1 : Int32) (v2 : Int32) (M : Mem) (r : Int32) (Mf : Mem) (h : fX11_leastLacks N v0 v1 v2 M = some (r, Mf)) : Ct l yX11_leastLacks cX11_leastLacks 5 (some .int) 4 0 0 b D cy [.ref (b + v0), .int v1, .int v2] M (some (.int r)) Mf := by
  refine Ct_of (own := RX11) (by decide) rfl (Nat.le_of_ble_eq_true rfl) ?_
  intro p e s m args below meth c F hr hl hmn
  unfold fX11_leastLacks at h
  show X p l e ({ frames := 4, cells := 0, slots := 0, locals := 100 * 4 }) s m args below meth c (MQ below (Qm b D cy (some (.int r)) Mf) args s 0 0 (fun q => b ≤ q)) 5 b D cy 0 0 M 0 [(0, .ref (b + v0)), (1, .int v1), (2, .int v2)] []
  refine x_ldc F (v := (100000)) dX11_leastLacks_0 wl_1010 ?_
  refine x_istore_n F (lv' := [(3, .int ((100000))), (0, .ref (b + v0)), (1, .int v1), (2, .int v2)]) dX11_leastLacks_2 rfl (by decide) rfl ?_
  refine x_iconst F (v := 0) dX11_leastLacks_3 (by decide) ?_
  refine x_istore F (lv' := [(4, .int 0), (3, .int ((100000))), (0, .ref (b + v0)), (1, .int v1), (2, .int v2)]) dX11_leastLacks_4 (by decide) rfl ?_
  have L6 : ∀ (v0 : Nat) (v1 : Int32) (v2 : Int32) (n : Nat) (v3 : Int32) (v4 : Int32) (M : Mem) (o : Int32 × Mem), fX11_leastLacks_L6 N v0 v1 v2 n v3 v4 M = some o → (∀ (r' : Int32) (M' : Mem), o = (r', M') → r' = r ∧ M' = Mf) → X p l e ({ frames := 4, cells := 0, slots := 0, locals := 100 * 4 }) s m args below meth c (MQ below (Qm b D cy (some (.int r)) Mf) args s 0 0 (fun q => b ≤ q)) 5 b D cy 0 0 M 6 [(0, .ref (b + v0)), (1, .int v1), (2, .int v2), (3, .int v3), (4, .int v4)] [] := by
    intro v0 v1 v2 n
    induction n with
    | zero => intro v3 v4 M o h; exact absurd h (by rw [fX11_leastLacks_L6]; exact fun z => by cases z)
    | succ n ih =>
      intro v3 v4 M o h hR
      rw [fX11_leastLacks_L6] at h
      refine x_iload F dX11_leastLacks_6 4 rfl ?_
      refine x_aload_n F dX11_leastLacks_8 rfl 0 rfl ?_
      refine x_iload_n F dX11_leastLacks_9 rfl 1 rfl ?_
      obtain ⟨k10, h⟩ := gdS h
      obtain ⟨⟨x10, M10⟩, c10, h⟩ := bdS h
      dsimp only at h
      refine x_callV F (As := [.int v1]) (rest := [.int v4]) (res := (some (.int x10))) (ci := 11) (q := (RX11, TX11, 45)) rfl (by decide) k10 (k_X11_longOf l b D cy N v0 v1 M _ _ c10) wl_1005 wl_1006 wl_1007 wl_854 wl_1003 hd_X11_longOf ⟨Nat.le_of_ble_eq_true rfl, Nat.le_of_ble_eq_true rfl⟩ ⟨Nat.le_refl _, Nat.le_refl _⟩ (Nat.le_of_ble_eq_true rfl) rfl dX11_leastLacks_10 ?_
      refine x_iadd F dX11_leastLacks_13 ?_
      refine x_aload_n F dX11_leastLacks_14 rfl 0 rfl ?_
      obtain ⟨x15, c15, h⟩ := bdS h
      refine x_getR F (ci := 11) (C := RX11) (T := TX11) (N := 45) rfl ⟨by decide, rfl⟩ inU11 14 (by decide) (fun _ _ _ => rfl) wl_913 c15 dX11_leastLacks_15 ?_
      refine x_bipush F (v := 11) dX11_leastLacks_18 (by decide) ?_
      refine x_iload_n F dX11_leastLacks_20 rfl 2 rfl ?_
      refine x_iadd F dX11_leastLacks_21 ?_
      obtain ⟨x22, c22, h⟩ := bdS h
      refine x_aI F c22 dX11_leastLacks_22 ?_
      refine x_icmp_gt F (tgt := 45) dX11_leastLacks_23 (by decide) (fun c23 => ?_) (fun c23 => ?_)
      · rw [if_pos c23] at h
        refine x_iload_n F dX11_leastLacks_45 rfl 3 rfl ?_
        obtain rfl := Option.some.inj h
        obtain ⟨rfl, rfl⟩ := hR _ _ rfl
        exact x_iret F hr hl dX11_leastLacks_46
      · rw [if_neg c23] at h
        refine x_iload_n F dX11_leastLacks_26 rfl 3 rfl ?_
        refine x_aload_n F dX11_leastLacks_27 rfl 0 rfl ?_
        refine x_iload_n F dX11_leastLacks_28 rfl 1 rfl ?_
        refine x_iload_n F dX11_leastLacks_29 rfl 2 rfl ?_
        refine x_iload F dX11_leastLacks_30 4 rfl ?_
        obtain ⟨k32, h⟩ := gdS h
        obtain ⟨⟨x32, M32⟩, c32, h⟩ := bdS h
        dsimp only at h
        refine x_callV F (As := [.int v1, .int v2, .int v4]) (rest := [.int v3]) (res := (some (.int x32))) (ci := 11) (q := (RX11, TX11, 45)) rfl (by decide) k32 (k_X11_lacks l b D cy N v0 v1 v2 v4 M10 _ _ c32) wl_1019 wl_1020 wl_1021 wl_854 wl_1009 hd_X11_lacks ⟨Nat.le_of_ble_eq_true rfl, Nat.le_of_ble_eq_true rfl⟩ ⟨Nat.le_refl _, Nat.le_refl _⟩ (Nat.le_of_ble_eq_true rfl) rfl dX11_leastLacks_32 ?_
        obtain ⟨⟨x35, M35⟩, c35, h⟩ := bdS h
        dsimp only at h
        refine x_callS F (As := [.int v3, .int x32]) (rest := []) (res := (some (.int x35))) (k_X11_least l b D cy N v3 x32 M32 _ _ c35) wl_1022 wl_1023 wl_854 wl_860 (hd_X11_least).2 ⟨Nat.le_of_ble_eq_true rfl, Nat.le_of_ble_eq_true rfl⟩ ⟨Nat.le_refl _, Nat.le_refl _⟩ (Nat.le_of_ble_eq_true rfl) rfl dX11_leastLacks_35 ?_
        refine x_istore_n F (lv' := [(3, .int x35), (0, .ref (b + v0)), (1, .int v1), (2, .int v2), (4, .int v4)]) dX11_leastLacks_38 rfl (by decide) rfl ?_
        refine x_iinc F (v := v4 + 1) (lv' := [(4, .int (v4 + 1)), (3, .int x35), (0, .ref (b + v0)), (1, .int v1), (2, .int v2)]) dX11_leastLacks_39 4 rfl rfl (by decide) rfl ?_
        refine x_goto F (tgt := 6) dX11_leastLacks_42 (by decide) ?_
        refine x_sub [2, 3, 4, 1, 0] rfl ?_
        exact ih x35 (v4 + 1) M35 o h hR
  obtain ⟨o6, h6, h⟩ := bdS h
  refine x_sub [2, 3, 4, 1, 0] rfl ?_
  refine L6 v0 v1 v2 N ((100000)) 0 M o6 h6 (fun r' M' e => ?_)
  · subst e
    try dsimp only at h
    obtain ⟨rfl, rfl⟩ := retS h; exact ⟨rfl, rfl⟩
theorem hd_X11_leastLacks : (yX11_leastLacks).cls = RX11 ∧ (yX11_leastLacks).cls ≠ "java/lang/invoke/MethodHandle" ∧ (yX11_leastLacks).cls ≠ "java/lang/invoke/VarHandle" ∧ (parseMethodDescriptor (yX11_leastLacks).desc).map (fun d => d.parameters.length) = some 2 := by decide +kernel
theorem dX11_isReadIn_0 : decode cX11_isReadIn 0 = .ok (.aload_n 0, 1) := by decide +kernel
theorem dX11_isReadIn_1 : decode cX11_isReadIn 1 = .ok (.iload_n 1, 1) := by decide +kernel
theorem dX11_isReadIn_2 : decode cX11_isReadIn 2 = .ok (.iload_n 2, 1) := by decide +kernel
theorem dX11_isReadIn_3 : decode cX11_isReadIn 3 = .ok (.invokevirtual 237, 3) := by decide +kernel
theorem dX11_isReadIn_6 : decode cX11_isReadIn 6 = .ok (.ifCond .ne 7, 3) := by decide +kernel
theorem dX11_isReadIn_9 : decode cX11_isReadIn 9 = .ok (.iconst 1, 1) := by decide +kernel
theorem dX11_isReadIn_10 : decode cX11_isReadIn 10 = .ok (.goto 4, 3) := by decide +kernel
theorem dX11_isReadIn_13 : decode cX11_isReadIn 13 = .ok (.iconst 0, 1) := by decide +kernel
theorem dX11_isReadIn_14 : decode cX11_isReadIn 14 = .ok (.ireturn, 1) := by decide +kernel
def fX11_isReadIn (N : Nat) (v0 : Nat) (v1 : Int32) (v2 : Int32) (M : Mem) : Option (Int32 × Mem) := (if mK M v0 = 12 then ((fX11_leastLacks N v0 v1 v2 M).bind fun (x3, M3) => (if x3 = 0 then some (1, M3) else some (0, M3))) else none)
set_option maxHeartbeats 4000000 in
set_option maxRecDepth 100000 in
theorem k_X11_isReadIn (l : Launch) (b : Nat) (D : va_G) (cy : Nat → ClassId) (N : Nat) (v0 : Nat) (v1 : Int32) (v2 : Int32) (M : Mem) (r : Int32) (Mf : Mem) (h : fX11_isReadIn N v0 v1 v2 M = some (r, Mf)) : Ct l yX11_isReadIn cX11_isReadIn 3 (some .boolean) 5 0 0 b D cy [.ref (b + v0), .int v1, .int v2] M (some (.int r)) Mf := by
  refine Ct_of (own := RX11) (by decide) rfl (Nat.le_of_ble_eq_true rfl) ?_
  intro p e s m args below meth c F hr hl hmn
  unfold fX11_isReadIn at h
  show X p l e ({ frames := 5, cells := 0, slots := 0, locals := 100 * 5 }) s m args below meth c (MQ below (Qm b D cy (some (.int r)) Mf) args s 0 0 (fun q => b ≤ q)) 3 b D cy 0 0 M 0 [(0, .ref (b + v0)), (1, .int v1), (2, .int v2)] []
  refine x_aload_n F dX11_isReadIn_0 rfl 0 rfl ?_
  refine x_iload_n F dX11_isReadIn_1 rfl 1 rfl ?_
  refine x_iload_n F dX11_isReadIn_2 rfl 2 rfl ?_
  obtain ⟨k3, h⟩ := gdS h
  obtain ⟨⟨x3, M3⟩, c3, h⟩ := bdS h
  dsimp only at h
  refine x_callV F (As := [.int v1, .int v2]) (rest := []) (res := (some (.int x3))) (ci := 11) (q := (RX11, TX11, 45)) rfl (by decide) k3 (k_X11_leastLacks l b D cy N v0 v1 v2 M _ _ c3) wl_1025 wl_1026 wl_1027 wl_854 wl_1024 hd_X11_leastLacks ⟨Nat.le_of_ble_eq_true rfl, Nat.le_of_ble_eq_true rfl⟩ ⟨Nat.le_refl _, Nat.le_refl _⟩ (Nat.le_of_ble_eq_true rfl) rfl dX11_isReadIn_3 ?_
  refine x_if_ne F (tgt := 13) dX11_isReadIn_6 (by decide) (fun c6 => ?_) (fun c6 => ?_)
  · rw [if_neg c6] at h
    refine x_iconst F (v := 0) dX11_isReadIn_13 (by decide) ?_
    obtain ⟨rfl, rfl⟩ := retS h
    exact x_zret F hr hl (by decide) dX11_isReadIn_14
  · rw [if_pos c6] at h
    refine x_iconst F (v := 1) dX11_isReadIn_9 (by decide) ?_
    refine x_goto F (tgt := 14) dX11_isReadIn_10 (by decide) ?_
    obtain ⟨rfl, rfl⟩ := retS h
    exact x_zret F hr hl (by decide) dX11_isReadIn_14
theorem hd_X11_isReadIn : (yX11_isReadIn).cls = RX11 ∧ (yX11_isReadIn).cls ≠ "java/lang/invoke/MethodHandle" ∧ (yX11_isReadIn).cls ≠ "java/lang/invoke/VarHandle" ∧ (parseMethodDescriptor (yX11_isReadIn).desc).map (fun d => d.parameters.length) = some 2 := by decide +kernel
theorem dX11_readIn_0 : decode cX11_readIn 0 = .ok (.iconst 0, 1) := by decide +kernel
theorem dX11_readIn_1 : decode cX11_readIn 1 = .ok (.istore_n 2, 1) := by decide +kernel
theorem dX11_readIn_2 : decode cX11_readIn 2 = .ok (.iload_n 2, 1) := by decide +kernel
theorem dX11_readIn_3 : decode cX11_readIn 3 = .ok (.aload_n 0, 1) := by decide +kernel
theorem dX11_readIn_4 : decode cX11_readIn 4 = .ok (.getfield 98, 3) := by decide +kernel
theorem dX11_readIn_7 : decode cX11_readIn 7 = .ok (.iconst 0, 1) := by decide +kernel
theorem dX11_readIn_8 : decode cX11_readIn 8 = .ok (.iaload, 1) := by decide +kernel
theorem dX11_readIn_9 : decode cX11_readIn 9 = .ok (.if_icmp .ge 20, 3) := by decide +kernel
theorem dX11_readIn_12 : decode cX11_readIn 12 = .ok (.aload_n 0, 1) := by decide +kernel
theorem dX11_readIn_13 : decode cX11_readIn 13 = .ok (.iload_n 1, 1) := by decide +kernel
theorem dX11_readIn_14 : decode cX11_readIn 14 = .ok (.iload_n 2, 1) := by decide +kernel
theorem dX11_readIn_15 : decode cX11_readIn 15 = .ok (.invokevirtual 240, 3) := by decide +kernel
theorem dX11_readIn_18 : decode cX11_readIn 18 = .ok (.ifCond .eq 5, 3) := by decide +kernel
theorem dX11_readIn_21 : decode cX11_readIn 21 = .ok (.iload_n 2, 1) := by decide +kernel
theorem dX11_readIn_22 : decode cX11_readIn 22 = .ok (.ireturn, 1) := by decide +kernel
theorem dX11_readIn_23 : decode cX11_readIn 23 = .ok (.iinc 2 1, 3) := by decide +kernel
theorem dX11_readIn_26 : decode cX11_readIn 26 = .ok (.goto (-24), 3) := by decide +kernel
theorem dX11_readIn_29 : decode cX11_readIn 29 = .ok (.iconst (-1), 1) := by decide +kernel
theorem dX11_readIn_30 : decode cX11_readIn 30 = .ok (.ireturn, 1) := by decide +kernel
def fX11_readIn_L2 (N : Nat) (v0 : Nat) (v1 : Int32) : Nat → Int32 → Mem → Option (Int32 × Mem)
  | 0, _, _ => none
  | n + 1, v2, M => ((fR M 11 v0 14).bind fun x4 => ((aI M x4 0).bind fun x8 => (if x8 ≤ v2 then some ((-1), M) else (if mK M v0 = 12 then ((fX11_isReadIn N v0 v1 v2 M).bind fun (x15, M15) => (if x15 = 0 then fX11_readIn_L2 N v0 v1 n (v2 + 1) M15 else some (v2, M15))) else none))))
def fX11_readIn (N : Nat) (v0 : Nat) (v1 : Int32) (M : Mem) : Option (Int32 × Mem) := ((fX11_readIn_L2 N v0 v1 N 0 M).bind fun o2 => some o2)
set_option maxHeartbeats 4000000 in
set_option maxRecDepth 100000 in
theorem k_X11_readIn (l : Launch) (b : Nat) (D : va_G) (cy : Nat → ClassId) (N : Nat) (v0 : Nat) (v1 : Int32) (M : Mem) (r : Int32) (Mf : Mem) (h : fX11_readIn N v0 v1 M = some (r, Mf)) : Ct l yX11_readIn cX11_readIn 3 (some .int) 6 0 0 b D cy [.ref (b + v0), .int v1] M (some (.int r)) Mf := by
  refine Ct_of (own := RX11) (by decide) rfl (Nat.le_of_ble_eq_true rfl) ?_
  intro p e s m args below meth c F hr hl hmn
  unfold fX11_readIn at h
  show X p l e ({ frames := 6, cells := 0, slots := 0, locals := 100 * 6 }) s m args below meth c (MQ below (Qm b D cy (some (.int r)) Mf) args s 0 0 (fun q => b ≤ q)) 3 b D cy 0 0 M 0 [(0, .ref (b + v0)), (1, .int v1)] []
  refine x_iconst F (v := 0) dX11_readIn_0 (by decide) ?_
  refine x_istore_n F (lv' := [(2, .int 0), (0, .ref (b + v0)), (1, .int v1)]) dX11_readIn_1 rfl (by decide) rfl ?_
  have L2 : ∀ (v0 : Nat) (v1 : Int32) (n : Nat) (v2 : Int32) (M : Mem) (o : Int32 × Mem), fX11_readIn_L2 N v0 v1 n v2 M = some o → (∀ (r' : Int32) (M' : Mem), o = (r', M') → r' = r ∧ M' = Mf) → X p l e ({ frames := 6, cells := 0, slots := 0, locals := 100 * 6 }) s m args below meth c (MQ below (Qm b D cy (some (.int r)) Mf) args s 0 0 (fun q => b ≤ q)) 3 b D cy 0 0 M 2 [(0, .ref (b + v0)), (1, .int v1), (2, .int v2)] [] := by
    intro v0 v1 n
    induction n with
    | zero => intro v2 M o h; exact absurd h (by rw [fX11_readIn_L2]; exact fun z => by cases z)
    | succ n ih =>
      intro v2 M o h hR
      rw [fX11_readIn_L2] at h
      refine x_iload_n F dX11_readIn_2 rfl 2 rfl ?_
      refine x_aload_n F dX11_readIn_3 rfl 0 rfl ?_
      obtain ⟨x4, c4, h⟩ := bdS h
      refine x_getR F (ci := 11) (C := RX11) (T := TX11) (N := 45) rfl ⟨by decide, rfl⟩ inU11 14 (by decide) (fun _ _ _ => rfl) wl_913 c4 dX11_readIn_4 ?_
      refine x_iconst F (v := 0) dX11_readIn_7 (by decide) ?_
      obtain ⟨x8, c8, h⟩ := bdS h
      refine x_aI F c8 dX11_readIn_8 ?_
      refine x_icmp_ge F (tgt := 29) dX11_readIn_9 (by decide) (fun c9 => ?_) (fun c9 => ?_)
      · rw [if_pos c9] at h
        refine x_iconst F (v := (-1)) dX11_readIn_29 (by decide) ?_
        obtain rfl := Option.some.inj h
        obtain ⟨rfl, rfl⟩ := hR _ _ rfl
        exact x_iret F hr hl dX11_readIn_30
      · rw [if_neg c9] at h
        refine x_aload_n F dX11_readIn_12 rfl 0 rfl ?_
        refine x_iload_n F dX11_readIn_13 rfl 1 rfl ?_
        refine x_iload_n F dX11_readIn_14 rfl 2 rfl ?_
        obtain ⟨k15, h⟩ := gdS h
        obtain ⟨⟨x15, M15⟩, c15, h⟩ := bdS h
        dsimp only at h
        refine x_callV F (As := [.int v1, .int v2]) (rest := []) (res := (some (.int x15))) (ci := 11) (q := (RX11, TX11, 45)) rfl (by decide) k15 (k_X11_isReadIn l b D cy N v0 v1 v2 M _ _ c15) wl_1029 wl_1030 wl_1031 wl_854 wl_1028 hd_X11_isReadIn ⟨Nat.le_of_ble_eq_true rfl, Nat.le_of_ble_eq_true rfl⟩ ⟨Nat.le_refl _, Nat.le_refl _⟩ (Nat.le_of_ble_eq_true rfl) rfl dX11_readIn_15 ?_
        refine x_if_eq F (tgt := 23) dX11_readIn_18 (by decide) (fun c18 => ?_) (fun c18 => ?_)
        · rw [if_pos c18] at h
          refine x_iinc F (v := v2 + 1) (lv' := [(2, .int (v2 + 1)), (0, .ref (b + v0)), (1, .int v1)]) dX11_readIn_23 2 rfl rfl (by decide) rfl ?_
          refine x_goto F (tgt := 2) dX11_readIn_26 (by decide) ?_
          refine x_sub [1, 2, 0] rfl ?_
          exact ih (v2 + 1) M15 o h hR
        · rw [if_neg c18] at h
          refine x_iload_n F dX11_readIn_21 rfl 2 rfl ?_
          obtain rfl := Option.some.inj h
          obtain ⟨rfl, rfl⟩ := hR _ _ rfl
          exact x_iret F hr hl dX11_readIn_22
  obtain ⟨o2, h2, h⟩ := bdS h
  refine x_sub [1, 2, 0] rfl ?_
  refine L2 v0 v1 N 0 M o2 h2 (fun r' M' e => ?_)
  · subst e
    try dsimp only at h
    obtain ⟨rfl, rfl⟩ := retS h; exact ⟨rfl, rfl⟩
theorem dX11_signsOf_0 : decode cX11_signsOf 0 = .ok (.iconst 0, 1) := by decide +kernel
theorem dX11_signsOf_1 : decode cX11_signsOf 1 = .ok (.istore_n 2, 1) := by decide +kernel
theorem dX11_signsOf_2 : decode cX11_signsOf 2 = .ok (.iconst 0, 1) := by decide +kernel
theorem dX11_signsOf_3 : decode cX11_signsOf 3 = .ok (.istore_n 3, 1) := by decide +kernel
theorem dX11_signsOf_4 : decode cX11_signsOf 4 = .ok (.iload_n 3, 1) := by decide +kernel
theorem dX11_signsOf_5 : decode cX11_signsOf 5 = .ok (.aload_n 0, 1) := by decide +kernel
theorem dX11_signsOf_6 : decode cX11_signsOf 6 = .ok (.getfield 98, 3) := by decide +kernel
theorem dX11_signsOf_9 : decode cX11_signsOf 9 = .ok (.bipush 11, 2) := by decide +kernel
theorem dX11_signsOf_11 : decode cX11_signsOf 11 = .ok (.iload_n 1, 1) := by decide +kernel
theorem dX11_signsOf_12 : decode cX11_signsOf 12 = .ok (.iadd, 1) := by decide +kernel
theorem dX11_signsOf_13 : decode cX11_signsOf 13 = .ok (.iaload, 1) := by decide +kernel
theorem dX11_signsOf_14 : decode cX11_signsOf 14 = .ok (.if_icmp .ge 22, 3) := by decide +kernel
theorem dX11_signsOf_17 : decode cX11_signsOf 17 = .ok (.aload_n 0, 1) := by decide +kernel
theorem dX11_signsOf_18 : decode cX11_signsOf 18 = .ok (.iload_n 1, 1) := by decide +kernel
theorem dX11_signsOf_19 : decode cX11_signsOf 19 = .ok (.iload_n 3, 1) := by decide +kernel
theorem dX11_signsOf_20 : decode cX11_signsOf 20 = .ok (.invokevirtual 219, 3) := by decide +kernel
theorem dX11_signsOf_23 : decode cX11_signsOf 23 = .ok (.iconst (-1), 1) := by decide +kernel
theorem dX11_signsOf_24 : decode cX11_signsOf 24 = .ok (.if_icmp .eq 6, 3) := by decide +kernel
theorem dX11_signsOf_27 : decode cX11_signsOf 27 = .ok (.iinc 2 1, 3) := by decide +kernel
theorem dX11_signsOf_30 : decode cX11_signsOf 30 = .ok (.iinc 3 1, 3) := by decide +kernel
theorem dX11_signsOf_33 : decode cX11_signsOf 33 = .ok (.goto (-29), 3) := by decide +kernel
theorem dX11_signsOf_36 : decode cX11_signsOf 36 = .ok (.iload_n 2, 1) := by decide +kernel
theorem dX11_signsOf_37 : decode cX11_signsOf 37 = .ok (.ireturn, 1) := by decide +kernel
def fX11_signsOf_L4 (N : Nat) (v0 : Nat) (v1 : Int32) : Nat → Int32 → Int32 → Mem → Option (Int32 × Mem)
  | 0, _, _, _ => none
  | n + 1, v2, v3, M => ((fR M 11 v0 14).bind fun x6 => ((aI M x6 (11 + v1)).bind fun x13 => (if x13 ≤ v3 then some (v2, M) else (if mK M v0 = 12 then ((fX11_signAt N v0 v1 v3 M).bind fun (x20, M20) => (if x20 = ((-1)) then fX11_signsOf_L4 N v0 v1 n v2 (v3 + 1) M20 else fX11_signsOf_L4 N v0 v1 n (v2 + 1) (v3 + 1) M20)) else none))))
def fX11_signsOf (N : Nat) (v0 : Nat) (v1 : Int32) (M : Mem) : Option (Int32 × Mem) := ((fX11_signsOf_L4 N v0 v1 N 0 0 M).bind fun o4 => some o4)
set_option maxHeartbeats 4000000 in
set_option maxRecDepth 100000 in
theorem k_X11_signsOf (l : Launch) (b : Nat) (D : va_G) (cy : Nat → ClassId) (N : Nat) (v0 : Nat) (v1 : Int32) (M : Mem) (r : Int32) (Mf : Mem) (h : fX11_signsOf N v0 v1 M = some (r, Mf)) : Ct l yX11_signsOf cX11_signsOf 4 (some .int) 2 0 0 b D cy [.ref (b + v0), .int v1] M (some (.int r)) Mf := by
  refine Ct_of (own := RX11) (by decide) rfl (Nat.le_of_ble_eq_true rfl) ?_
  intro p e s m args below meth c F hr hl hmn
  unfold fX11_signsOf at h
  show X p l e ({ frames := 2, cells := 0, slots := 0, locals := 100 * 2 }) s m args below meth c (MQ below (Qm b D cy (some (.int r)) Mf) args s 0 0 (fun q => b ≤ q)) 4 b D cy 0 0 M 0 [(0, .ref (b + v0)), (1, .int v1)] []
  refine x_iconst F (v := 0) dX11_signsOf_0 (by decide) ?_
  refine x_istore_n F (lv' := [(2, .int 0), (0, .ref (b + v0)), (1, .int v1)]) dX11_signsOf_1 rfl (by decide) rfl ?_
  refine x_iconst F (v := 0) dX11_signsOf_2 (by decide) ?_
  refine x_istore_n F (lv' := [(3, .int 0), (2, .int 0), (0, .ref (b + v0)), (1, .int v1)]) dX11_signsOf_3 rfl (by decide) rfl ?_
  have L4 : ∀ (v0 : Nat) (v1 : Int32) (n : Nat) (v2 : Int32) (v3 : Int32) (M : Mem) (o : Int32 × Mem), fX11_signsOf_L4 N v0 v1 n v2 v3 M = some o → (∀ (r' : Int32) (M' : Mem), o = (r', M') → r' = r ∧ M' = Mf) → X p l e ({ frames := 2, cells := 0, slots := 0, locals := 100 * 2 }) s m args below meth c (MQ below (Qm b D cy (some (.int r)) Mf) args s 0 0 (fun q => b ≤ q)) 4 b D cy 0 0 M 4 [(0, .ref (b + v0)), (1, .int v1), (2, .int v2), (3, .int v3)] [] := by
    intro v0 v1 n
    induction n with
    | zero => intro v2 v3 M o h; exact absurd h (by rw [fX11_signsOf_L4]; exact fun z => by cases z)
    | succ n ih =>
      intro v2 v3 M o h hR
      rw [fX11_signsOf_L4] at h
      refine x_iload_n F dX11_signsOf_4 rfl 3 rfl ?_
      refine x_aload_n F dX11_signsOf_5 rfl 0 rfl ?_
      obtain ⟨x6, c6, h⟩ := bdS h
      refine x_getR F (ci := 11) (C := RX11) (T := TX11) (N := 45) rfl ⟨by decide, rfl⟩ inU11 14 (by decide) (fun _ _ _ => rfl) wl_913 c6 dX11_signsOf_6 ?_
      refine x_bipush F (v := 11) dX11_signsOf_9 (by decide) ?_
      refine x_iload_n F dX11_signsOf_11 rfl 1 rfl ?_
      refine x_iadd F dX11_signsOf_12 ?_
      obtain ⟨x13, c13, h⟩ := bdS h
      refine x_aI F c13 dX11_signsOf_13 ?_
      refine x_icmp_ge F (tgt := 36) dX11_signsOf_14 (by decide) (fun c14 => ?_) (fun c14 => ?_)
      · rw [if_pos c14] at h
        refine x_iload_n F dX11_signsOf_36 rfl 2 rfl ?_
        obtain rfl := Option.some.inj h
        obtain ⟨rfl, rfl⟩ := hR _ _ rfl
        exact x_iret F hr hl dX11_signsOf_37
      · rw [if_neg c14] at h
        refine x_aload_n F dX11_signsOf_17 rfl 0 rfl ?_
        refine x_iload_n F dX11_signsOf_18 rfl 1 rfl ?_
        refine x_iload_n F dX11_signsOf_19 rfl 3 rfl ?_
        obtain ⟨k20, h⟩ := gdS h
        obtain ⟨⟨x20, M20⟩, c20, h⟩ := bdS h
        dsimp only at h
        refine x_callV F (As := [.int v1, .int v3]) (rest := []) (res := (some (.int x20))) (ci := 11) (q := (RX11, TX11, 45)) rfl (by decide) k20 (k_X11_signAt l b D cy N v0 v1 v3 M _ _ c20) wl_1011 wl_1012 wl_1013 wl_854 wl_1002 hd_X11_signAt ⟨Nat.le_of_ble_eq_true rfl, Nat.le_of_ble_eq_true rfl⟩ ⟨Nat.le_refl _, Nat.le_refl _⟩ (Nat.le_of_ble_eq_true rfl) rfl dX11_signsOf_20 ?_
        refine x_iconst F (v := (-1)) dX11_signsOf_23 (by decide) ?_
        refine x_icmp_eq F (tgt := 30) dX11_signsOf_24 (by decide) (fun c24 => ?_) (fun c24 => ?_)
        · rw [if_pos c24] at h
          refine x_iinc F (v := v3 + 1) (lv' := [(3, .int (v3 + 1)), (0, .ref (b + v0)), (1, .int v1), (2, .int v2)]) dX11_signsOf_30 3 rfl rfl (by decide) rfl ?_
          refine x_goto F (tgt := 4) dX11_signsOf_33 (by decide) ?_
          refine x_sub [1, 2, 3, 0] rfl ?_
          exact ih v2 (v3 + 1) M20 o h hR
        · rw [if_neg c24] at h
          refine x_iinc F (v := v2 + 1) (lv' := [(2, .int (v2 + 1)), (0, .ref (b + v0)), (1, .int v1), (3, .int v3)]) dX11_signsOf_27 2 rfl rfl (by decide) rfl ?_
          refine x_iinc F (v := v3 + 1) (lv' := [(3, .int (v3 + 1)), (2, .int (v2 + 1)), (0, .ref (b + v0)), (1, .int v1)]) dX11_signsOf_30 3 rfl rfl (by decide) rfl ?_
          refine x_goto F (tgt := 4) dX11_signsOf_33 (by decide) ?_
          refine x_sub [2, 3, 1, 0] rfl ?_
          exact ih (v2 + 1) (v3 + 1) M20 o h hR
  obtain ⟨o4, h4, h⟩ := bdS h
  refine x_sub [2, 3, 1, 0] rfl ?_
  refine L4 v0 v1 N 0 0 M o4 h4 (fun r' M' e => ?_)
  · subst e
    try dsimp only at h
    obtain ⟨rfl, rfl⟩ := retS h; exact ⟨rfl, rfl⟩
theorem dX11_tideAt_0 : decode cX11_tideAt 0 = .ok (.aload_n 0, 1) := by decide +kernel
theorem dX11_tideAt_1 : decode cX11_tideAt 1 = .ok (.getfield 98, 3) := by decide +kernel
theorem dX11_tideAt_4 : decode cX11_tideAt 4 = .ok (.iconst 3, 1) := by decide +kernel
theorem dX11_tideAt_5 : decode cX11_tideAt 5 = .ok (.iaload, 1) := by decide +kernel
theorem dX11_tideAt_6 : decode cX11_tideAt 6 = .ok (.ifCond .ne 7, 3) := by decide +kernel
theorem dX11_tideAt_9 : decode cX11_tideAt 9 = .ok (.iconst (-1), 1) := by decide +kernel
theorem dX11_tideAt_10 : decode cX11_tideAt 10 = .ok (.goto 27, 3) := by decide +kernel
theorem dX11_tideAt_13 : decode cX11_tideAt 13 = .ok (.aload_n 0, 1) := by decide +kernel
theorem dX11_tideAt_14 : decode cX11_tideAt 14 = .ok (.getfield 98, 3) := by decide +kernel
theorem dX11_tideAt_17 : decode cX11_tideAt 17 = .ok (.bipush 17, 2) := by decide +kernel
theorem dX11_tideAt_19 : decode cX11_tideAt 19 = .ok (.aload_n 0, 1) := by decide +kernel
theorem dX11_tideAt_20 : decode cX11_tideAt 20 = .ok (.getfield 98, 3) := by decide +kernel
theorem dX11_tideAt_23 : decode cX11_tideAt 23 = .ok (.bipush 35, 2) := by decide +kernel
theorem dX11_tideAt_25 : decode cX11_tideAt 25 = .ok (.iaload, 1) := by decide +kernel
theorem dX11_tideAt_26 : decode cX11_tideAt 26 = .ok (.iload_n 1, 1) := by decide +kernel
theorem dX11_tideAt_27 : decode cX11_tideAt 27 = .ok (.iadd, 1) := by decide +kernel
theorem dX11_tideAt_28 : decode cX11_tideAt 28 = .ok (.aload_n 0, 1) := by decide +kernel
theorem dX11_tideAt_29 : decode cX11_tideAt 29 = .ok (.getfield 98, 3) := by decide +kernel
theorem dX11_tideAt_32 : decode cX11_tideAt 32 = .ok (.iconst 3, 1) := by decide +kernel
theorem dX11_tideAt_33 : decode cX11_tideAt 33 = .ok (.iaload, 1) := by decide +kernel
theorem dX11_tideAt_34 : decode cX11_tideAt 34 = .ok (.irem, 1) := by decide +kernel
theorem dX11_tideAt_35 : decode cX11_tideAt 35 = .ok (.iadd, 1) := by decide +kernel
theorem dX11_tideAt_36 : decode cX11_tideAt 36 = .ok (.iaload, 1) := by decide +kernel
theorem dX11_tideAt_37 : decode cX11_tideAt 37 = .ok (.ireturn, 1) := by decide +kernel
def fX11_tideAt (N : Nat) (v0 : Nat) (v1 : Int32) (M : Mem) : Option (Int32 × Mem) := ((fR M 11 v0 14).bind fun x1 => ((aI M x1 3).bind fun x5 => (if x5 = 0 then some ((-1), M) else ((fR M 11 v0 14).bind fun x14 => ((fR M 11 v0 14).bind fun x20 => ((aI M x20 35).bind fun x25 => ((fR M 11 v0 14).bind fun x29 => ((aI M x29 3).bind fun x33 => (if ¬ x33 = 0 then ((aI M x14 (17 + ((x25 + v1) - (x25 + v1) / x33 * x33))).bind fun x36 => some (x36, M)) else none)))))))))
set_option maxHeartbeats 4000000 in
set_option maxRecDepth 100000 in
theorem k_X11_tideAt (l : Launch) (b : Nat) (D : va_G) (cy : Nat → ClassId) (N : Nat) (v0 : Nat) (v1 : Int32) (M : Mem) (r : Int32) (Mf : Mem) (h : fX11_tideAt N v0 v1 M = some (r, Mf)) : Ct l yX11_tideAt cX11_tideAt 2 (some .int) 1 0 0 b D cy [.ref (b + v0), .int v1] M (some (.int r)) Mf := by
  refine Ct_of (own := RX11) (by decide) rfl (Nat.le_of_ble_eq_true rfl) ?_
  intro p e s m args below meth c F hr hl hmn
  unfold fX11_tideAt at h
  show X p l e ({ frames := 1, cells := 0, slots := 0, locals := 100 * 1 }) s m args below meth c (MQ below (Qm b D cy (some (.int r)) Mf) args s 0 0 (fun q => b ≤ q)) 2 b D cy 0 0 M 0 [(0, .ref (b + v0)), (1, .int v1)] []
  refine x_aload_n F dX11_tideAt_0 rfl 0 rfl ?_
  obtain ⟨x1, c1, h⟩ := bdS h
  refine x_getR F (ci := 11) (C := RX11) (T := TX11) (N := 45) rfl ⟨by decide, rfl⟩ inU11 14 (by decide) (fun _ _ _ => rfl) wl_913 c1 dX11_tideAt_1 ?_
  refine x_iconst F (v := 3) dX11_tideAt_4 (by decide) ?_
  obtain ⟨x5, c5, h⟩ := bdS h
  refine x_aI F c5 dX11_tideAt_5 ?_
  refine x_if_ne F (tgt := 13) dX11_tideAt_6 (by decide) (fun c6 => ?_) (fun c6 => ?_)
  · rw [if_neg c6] at h
    refine x_aload_n F dX11_tideAt_13 rfl 0 rfl ?_
    obtain ⟨x14, c14, h⟩ := bdS h
    refine x_getR F (ci := 11) (C := RX11) (T := TX11) (N := 45) rfl ⟨by decide, rfl⟩ inU11 14 (by decide) (fun _ _ _ => rfl) wl_913 c14 dX11_tideAt_14 ?_
    refine x_bipush F (v := 17) dX11_tideAt_17 (by decide) ?_
    refine x_aload_n F dX11_tideAt_19 rfl 0 rfl ?_
    obtain ⟨x20, c20, h⟩ := bdS h
    refine x_getR F (ci := 11) (C := RX11) (T := TX11) (N := 45) rfl ⟨by decide, rfl⟩ inU11 14 (by decide) (fun _ _ _ => rfl) wl_913 c20 dX11_tideAt_20 ?_
    refine x_bipush F (v := 35) dX11_tideAt_23 (by decide) ?_
    obtain ⟨x25, c25, h⟩ := bdS h
    refine x_aI F c25 dX11_tideAt_25 ?_
    refine x_iload_n F dX11_tideAt_26 rfl 1 rfl ?_
    refine x_iadd F dX11_tideAt_27 ?_
    refine x_aload_n F dX11_tideAt_28 rfl 0 rfl ?_
    obtain ⟨x29, c29, h⟩ := bdS h
    refine x_getR F (ci := 11) (C := RX11) (T := TX11) (N := 45) rfl ⟨by decide, rfl⟩ inU11 14 (by decide) (fun _ _ _ => rfl) wl_913 c29 dX11_tideAt_29 ?_
    refine x_iconst F (v := 3) dX11_tideAt_32 (by decide) ?_
    obtain ⟨x33, c33, h⟩ := bdS h
    refine x_aI F c33 dX11_tideAt_33 ?_
    obtain ⟨c34, h⟩ := gdS h
    refine x_irem F dX11_tideAt_34 c34 ?_
    refine x_iadd F dX11_tideAt_35 ?_
    obtain ⟨x36, c36, h⟩ := bdS h
    refine x_aI F c36 dX11_tideAt_36 ?_
    obtain ⟨rfl, rfl⟩ := retS h
    exact x_iret F hr hl dX11_tideAt_37
  · rw [if_pos c6] at h
    refine x_iconst F (v := (-1)) dX11_tideAt_9 (by decide) ?_
    refine x_goto F (tgt := 37) dX11_tideAt_10 (by decide) ?_
    obtain ⟨rfl, rfl⟩ := retS h
    exact x_iret F hr hl dX11_tideAt_37
theorem hd_X11_tideAt : (yX11_tideAt).cls = RX11 ∧ (yX11_tideAt).cls ≠ "java/lang/invoke/MethodHandle" ∧ (yX11_tideAt).cls ≠ "java/lang/invoke/VarHandle" ∧ (parseMethodDescriptor (yX11_tideAt).desc).map (fun d => d.parameters.length) = some 1 := by decide +kernel
theorem dX11_isWashed_0 : decode cX11_isWashed 0 = .ok (.aload_n 0, 1) := by decide +kernel
theorem dX11_isWashed_1 : decode cX11_isWashed 1 = .ok (.getfield 98, 3) := by decide +kernel
theorem dX11_isWashed_4 : decode cX11_isWashed 4 = .ok (.iconst 5, 1) := by decide +kernel
theorem dX11_isWashed_5 : decode cX11_isWashed 5 = .ok (.iload_n 1, 1) := by decide +kernel
theorem dX11_isWashed_6 : decode cX11_isWashed 6 = .ok (.iadd, 1) := by decide +kernel
theorem dX11_isWashed_7 : decode cX11_isWashed 7 = .ok (.iaload, 1) := by decide +kernel
theorem dX11_isWashed_8 : decode cX11_isWashed 8 = .ok (.aload_n 0, 1) := by decide +kernel
theorem dX11_isWashed_9 : decode cX11_isWashed 9 = .ok (.iload_n 2, 1) := by decide +kernel
theorem dX11_isWashed_10 : decode cX11_isWashed 10 = .ok (.invokevirtual 243, 3) := by decide +kernel
theorem dX11_isWashed_13 : decode cX11_isWashed 13 = .ok (.if_icmp .gt 7, 3) := by decide +kernel
theorem dX11_isWashed_16 : decode cX11_isWashed 16 = .ok (.iconst 1, 1) := by decide +kernel
theorem dX11_isWashed_17 : decode cX11_isWashed 17 = .ok (.goto 4, 3) := by decide +kernel
theorem dX11_isWashed_20 : decode cX11_isWashed 20 = .ok (.iconst 0, 1) := by decide +kernel
theorem dX11_isWashed_21 : decode cX11_isWashed 21 = .ok (.ireturn, 1) := by decide +kernel
def fX11_isWashed (N : Nat) (v0 : Nat) (v1 : Int32) (v2 : Int32) (M : Mem) : Option (Int32 × Mem) := ((fR M 11 v0 14).bind fun x1 => ((aI M x1 (5 + v1)).bind fun x7 => (if mK M v0 = 12 then ((fX11_tideAt N v0 v2 M).bind fun (x10, M10) => (if x10 < x7 then some (0, M10) else some (1, M10))) else none)))
set_option maxHeartbeats 4000000 in
set_option maxRecDepth 100000 in
theorem k_X11_isWashed (l : Launch) (b : Nat) (D : va_G) (cy : Nat → ClassId) (N : Nat) (v0 : Nat) (v1 : Int32) (v2 : Int32) (M : Mem) (r : Int32) (Mf : Mem) (h : fX11_isWashed N v0 v1 v2 M = some (r, Mf)) : Ct l yX11_isWashed cX11_isWashed 3 (some .boolean) 2 0 0 b D cy [.ref (b + v0), .int v1, .int v2] M (some (.int r)) Mf := by
  refine Ct_of (own := RX11) (by decide) rfl (Nat.le_of_ble_eq_true rfl) ?_
  intro p e s m args below meth c F hr hl hmn
  unfold fX11_isWashed at h
  show X p l e ({ frames := 2, cells := 0, slots := 0, locals := 100 * 2 }) s m args below meth c (MQ below (Qm b D cy (some (.int r)) Mf) args s 0 0 (fun q => b ≤ q)) 3 b D cy 0 0 M 0 [(0, .ref (b + v0)), (1, .int v1), (2, .int v2)] []
  refine x_aload_n F dX11_isWashed_0 rfl 0 rfl ?_
  obtain ⟨x1, c1, h⟩ := bdS h
  refine x_getR F (ci := 11) (C := RX11) (T := TX11) (N := 45) rfl ⟨by decide, rfl⟩ inU11 14 (by decide) (fun _ _ _ => rfl) wl_913 c1 dX11_isWashed_1 ?_
  refine x_iconst F (v := 5) dX11_isWashed_4 (by decide) ?_
  refine x_iload_n F dX11_isWashed_5 rfl 1 rfl ?_
  refine x_iadd F dX11_isWashed_6 ?_
  obtain ⟨x7, c7, h⟩ := bdS h
  refine x_aI F c7 dX11_isWashed_7 ?_
  refine x_aload_n F dX11_isWashed_8 rfl 0 rfl ?_
  refine x_iload_n F dX11_isWashed_9 rfl 2 rfl ?_
  obtain ⟨k10, h⟩ := gdS h
  obtain ⟨⟨x10, M10⟩, c10, h⟩ := bdS h
  dsimp only at h
  refine x_callV F (As := [.int v2]) (rest := [.int x7]) (res := (some (.int x10))) (ci := 11) (q := (RX11, TX11, 45)) rfl (by decide) k10 (k_X11_tideAt l b D cy N v0 v2 M _ _ c10) wl_1036 wl_1037 wl_1038 wl_854 wl_1034 hd_X11_tideAt ⟨Nat.le_of_ble_eq_true rfl, Nat.le_of_ble_eq_true rfl⟩ ⟨Nat.le_refl _, Nat.le_refl _⟩ (Nat.le_of_ble_eq_true rfl) rfl dX11_isWashed_10 ?_
  refine x_icmp_gt F (tgt := 20) dX11_isWashed_13 (by decide) (fun c13 => ?_) (fun c13 => ?_)
  · rw [if_pos c13] at h
    refine x_iconst F (v := 0) dX11_isWashed_20 (by decide) ?_
    obtain ⟨rfl, rfl⟩ := retS h
    exact x_zret F hr hl (by decide) dX11_isWashed_21
  · rw [if_neg c13] at h
    refine x_iconst F (v := 1) dX11_isWashed_16 (by decide) ?_
    refine x_goto F (tgt := 21) dX11_isWashed_17 (by decide) ?_
    obtain ⟨rfl, rfl⟩ := retS h
    exact x_zret F hr hl (by decide) dX11_isWashed_21
theorem hd_X11_isBand : (yX11_isBand).cls = RX11 ∧ (yX11_isBand).cls ≠ "java/lang/invoke/MethodHandle" ∧ (yX11_isBand).cls ≠ "java/lang/invoke/VarHandle" ∧ (parseMethodDescriptor (yX11_isBand).desc).map (fun d => d.parameters.length) = some 1 := by decide +kernel
theorem hd_X11_signsOf : (yX11_signsOf).cls = RX11 ∧ (yX11_signsOf).cls ≠ "java/lang/invoke/MethodHandle" ∧ (yX11_signsOf).cls ≠ "java/lang/invoke/VarHandle" ∧ (parseMethodDescriptor (yX11_signsOf).desc).map (fun d => d.parameters.length) = some 1 := by decide +kernel
theorem hd_X11_refuse : (yX11_refuse).cls = RX11 ∧ (yX11_refuse).cls ≠ "java/lang/invoke/MethodHandle" ∧ (yX11_refuse).cls ≠ "java/lang/invoke/VarHandle" ∧ (parseMethodDescriptor (yX11_refuse).desc).map (fun d => d.parameters.length) = some 0 := by decide +kernel
theorem dX11_band_0 : decode cX11_band 0 = .ok (.aload_n 0, 1) := by decide +kernel
theorem dX11_band_1 : decode cX11_band 1 = .ok (.iconst 0, 1) := by decide +kernel
theorem dX11_band_2 : decode cX11_band 2 = .ok (.putfield 1, 3) := by decide +kernel
theorem dX11_band_5 : decode cX11_band 5 = .ok (.aload_n 0, 1) := by decide +kernel
theorem dX11_band_6 : decode cX11_band 6 = .ok (.iload_n 1, 1) := by decide +kernel
theorem dX11_band_7 : decode cX11_band 7 = .ok (.invokevirtual 246, 3) := by decide +kernel
theorem dX11_band_10 : decode cX11_band 10 = .ok (.ifCond .ne 8, 3) := by decide +kernel
theorem dX11_band_13 : decode cX11_band 13 = .ok (.aload_n 0, 1) := by decide +kernel
theorem dX11_band_14 : decode cX11_band 14 = .ok (.invokevirtual 249, 3) := by decide +kernel
theorem dX11_band_17 : decode cX11_band 17 = .ok (.ireturn, 1) := by decide +kernel
theorem dX11_band_18 : decode cX11_band 18 = .ok (.iload_n 2, 1) := by decide +kernel
theorem dX11_band_19 : decode cX11_band 19 = .ok (.tableswitch 109 0 4 #[33, 42, 52, 58, 68], 33) := by decide +kernel
theorem dX11_band_52 : decode cX11_band 52 = .ok (.aload_n 0, 1) := by decide +kernel
theorem dX11_band_53 : decode cX11_band 53 = .ok (.getfield 98, 3) := by decide +kernel
theorem dX11_band_56 : decode cX11_band 56 = .ok (.iconst 5, 1) := by decide +kernel
theorem dX11_band_57 : decode cX11_band 57 = .ok (.iload_n 1, 1) := by decide +kernel
theorem dX11_band_58 : decode cX11_band 58 = .ok (.iadd, 1) := by decide +kernel
theorem dX11_band_59 : decode cX11_band 59 = .ok (.iaload, 1) := by decide +kernel
theorem dX11_band_60 : decode cX11_band 60 = .ok (.ireturn, 1) := by decide +kernel
theorem dX11_band_61 : decode cX11_band 61 = .ok (.aload_n 0, 1) := by decide +kernel
theorem dX11_band_62 : decode cX11_band 62 = .ok (.getfield 98, 3) := by decide +kernel
theorem dX11_band_65 : decode cX11_band 65 = .ok (.bipush 11, 2) := by decide +kernel
theorem dX11_band_67 : decode cX11_band 67 = .ok (.iload_n 1, 1) := by decide +kernel
theorem dX11_band_68 : decode cX11_band 68 = .ok (.iadd, 1) := by decide +kernel
theorem dX11_band_69 : decode cX11_band 69 = .ok (.iaload, 1) := by decide +kernel
theorem dX11_band_70 : decode cX11_band 70 = .ok (.ireturn, 1) := by decide +kernel
theorem dX11_band_71 : decode cX11_band 71 = .ok (.aload_n 0, 1) := by decide +kernel
theorem dX11_band_72 : decode cX11_band 72 = .ok (.iload_n 1, 1) := by decide +kernel
theorem dX11_band_73 : decode cX11_band 73 = .ok (.invokevirtual 252, 3) := by decide +kernel
theorem dX11_band_76 : decode cX11_band 76 = .ok (.ireturn, 1) := by decide +kernel
theorem dX11_band_77 : decode cX11_band 77 = .ok (.aload_n 0, 1) := by decide +kernel
theorem dX11_band_78 : decode cX11_band 78 = .ok (.getfield 98, 3) := by decide +kernel
theorem dX11_band_81 : decode cX11_band 81 = .ok (.bipush 49, 2) := by decide +kernel
theorem dX11_band_83 : decode cX11_band 83 = .ok (.iload_n 1, 1) := by decide +kernel
theorem dX11_band_84 : decode cX11_band 84 = .ok (.iadd, 1) := by decide +kernel
theorem dX11_band_85 : decode cX11_band 85 = .ok (.iaload, 1) := by decide +kernel
theorem dX11_band_86 : decode cX11_band 86 = .ok (.ireturn, 1) := by decide +kernel
theorem dX11_band_87 : decode cX11_band 87 = .ok (.iconst 0, 1) := by decide +kernel
theorem dX11_band_88 : decode cX11_band 88 = .ok (.istore_n 3, 1) := by decide +kernel
theorem dX11_band_89 : decode cX11_band 89 = .ok (.iconst 0, 1) := by decide +kernel
theorem dX11_band_90 : decode cX11_band 90 = .ok (.istore 4, 2) := by decide +kernel
theorem dX11_band_92 : decode cX11_band 92 = .ok (.iload 4, 2) := by decide +kernel
theorem dX11_band_94 : decode cX11_band 94 = .ok (.aload_n 0, 1) := by decide +kernel
theorem dX11_band_95 : decode cX11_band 95 = .ok (.getfield 98, 3) := by decide +kernel
theorem dX11_band_98 : decode cX11_band 98 = .ok (.iconst 2, 1) := by decide +kernel
theorem dX11_band_99 : decode cX11_band 99 = .ok (.iaload, 1) := by decide +kernel
theorem dX11_band_100 : decode cX11_band 100 = .ok (.if_icmp .ge 26, 3) := by decide +kernel
theorem dX11_band_103 : decode cX11_band 103 = .ok (.aload_n 0, 1) := by decide +kernel
theorem dX11_band_104 : decode cX11_band 104 = .ok (.iload 4, 2) := by decide +kernel
theorem dX11_band_106 : decode cX11_band 106 = .ok (.iload_n 1, 1) := by decide +kernel
theorem dX11_band_107 : decode cX11_band 107 = .ok (.invokevirtual 240, 3) := by decide +kernel
theorem dX11_band_110 : decode cX11_band 110 = .ok (.ifCond .eq 10, 3) := by decide +kernel
theorem dX11_band_113 : decode cX11_band 113 = .ok (.iload_n 3, 1) := by decide +kernel
theorem dX11_band_114 : decode cX11_band 114 = .ok (.iconst 1, 1) := by decide +kernel
theorem dX11_band_115 : decode cX11_band 115 = .ok (.iload 4, 2) := by decide +kernel
theorem dX11_band_117 : decode cX11_band 117 = .ok (.ishl, 1) := by decide +kernel
theorem dX11_band_118 : decode cX11_band 118 = .ok (.ior, 1) := by decide +kernel
theorem dX11_band_119 : decode cX11_band 119 = .ok (.istore_n 3, 1) := by decide +kernel
theorem dX11_band_120 : decode cX11_band 120 = .ok (.iinc 4 1, 3) := by decide +kernel
theorem dX11_band_123 : decode cX11_band 123 = .ok (.goto (-31), 3) := by decide +kernel
theorem dX11_band_126 : decode cX11_band 126 = .ok (.iload_n 3, 1) := by decide +kernel
theorem dX11_band_127 : decode cX11_band 127 = .ok (.ireturn, 1) := by decide +kernel
theorem dX11_band_128 : decode cX11_band 128 = .ok (.aload_n 0, 1) := by decide +kernel
theorem dX11_band_129 : decode cX11_band 129 = .ok (.invokevirtual 249, 3) := by decide +kernel
theorem dX11_band_132 : decode cX11_band 132 = .ok (.ireturn, 1) := by decide +kernel
def fX11_band_L92 (N : Nat) (v0 : Nat) (v1 : Int32) : Nat → Int32 → Int32 → Mem → Option (Int32 × Mem)
  | 0, _, _, _ => none
  | n + 1, v3, v4, M => ((fR M 11 v0 14).bind fun x95 => ((aI M x95 2).bind fun x99 => (if x99 ≤ v4 then some (v3, M) else (if mK M v0 = 12 then ((fX11_isReadIn N v0 v4 v1 M).bind fun (x107, M107) => (if x107 = 0 then fX11_band_L92 N v0 v1 n v3 (v4 + 1) M107 else fX11_band_L92 N v0 v1 n (v3 ||| (1 <<< (v4 &&& 31))) (v4 + 1) M107)) else none))))
def fX11_band (N : Nat) (v0 : Nat) (v1 : Int32) (v2 : Int32) (M : Mem) : Option (Int32 × Mem) := ((pI M 11 v0 0 0).bind fun M2 => (if mK M2 v0 = 12 then ((fX11_isBand N v0 v1 M2).bind fun (x7, M7) => (if x7 = 0 then (if mK M7 v0 = 12 then ((fX11_refuse N v0 M7).bind fun (x14, M14) => some (x14, M14)) else none) else (if v2 = 0 then ((fR M7 11 v0 14).bind fun x53 => ((aI M7 x53 (5 + v1)).bind fun x59 => some (x59, M7))) else (if v2 = 1 then ((fR M7 11 v0 14).bind fun x62 => ((aI M7 x62 (11 + v1)).bind fun x69 => some (x69, M7))) else (if v2 = 2 then (if mK M7 v0 = 12 then ((fX11_signsOf N v0 v1 M7).bind fun (x73, M73) => some (x73, M73)) else none) else (if v2 = 3 then ((fR M7 11 v0 14).bind fun x78 => ((aI M7 x78 (49 + v1)).bind fun x85 => some (x85, M7))) else (if v2 = 4 then ((fX11_band_L92 N v0 v1 N 0 0 M7).bind fun o92 => some o92) else (if mK M7 v0 = 12 then ((fX11_refuse N v0 M7).bind fun (x129, M129) => some (x129, M129)) else none)))))))) else none))
set_option maxHeartbeats 4000000 in
set_option maxRecDepth 100000 in
theorem k_X11_band (l : Launch) (b : Nat) (D : va_G) (cy : Nat → ClassId) (N : Nat) (v0 : Nat) (v1 : Int32) (v2 : Int32) (M : Mem) (r : Int32) (Mf : Mem) (h : fX11_band N v0 v1 v2 M = some (r, Mf)) : Ct l yX11_band cX11_band 5 (some .int) 6 0 0 b D cy [.ref (b + v0), .int v1, .int v2] M (some (.int r)) Mf := by
  refine Ct_of (own := RX11) (by decide) rfl (Nat.le_of_ble_eq_true rfl) ?_
  intro p e s m args below meth c F hr hl hmn
  unfold fX11_band at h
  show X p l e ({ frames := 6, cells := 0, slots := 0, locals := 100 * 6 }) s m args below meth c (MQ below (Qm b D cy (some (.int r)) Mf) args s 0 0 (fun q => b ≤ q)) 5 b D cy 0 0 M 0 [(0, .ref (b + v0)), (1, .int v1), (2, .int v2)] []
  refine x_aload_n F dX11_band_0 rfl 0 rfl ?_
  refine x_iconst F (v := 0) dX11_band_1 (by decide) ?_
  obtain ⟨M2, c2, h⟩ := bdS h
  refine x_putI F (ci := 11) (C := RX11) (T := TX11) (N := 45) rfl ⟨by decide, rfl⟩ inU11 tyX11_ok nmX11 0 (by decide) rfl rfl wl_845 c2 dX11_band_2 ?_
  refine x_aload_n F dX11_band_5 rfl 0 rfl ?_
  refine x_iload_n F dX11_band_6 rfl 1 rfl ?_
  obtain ⟨k7, h⟩ := gdS h
  obtain ⟨⟨x7, M7⟩, c7, h⟩ := bdS h
  dsimp only at h
  refine x_callV F (As := [.int v1]) (rest := []) (res := (some (.int x7))) (ci := 11) (q := (RX11, TX11, 45)) rfl (by decide) k7 (k_X11_isBand l b D cy N v0 v1 M2 _ _ c7) wl_1039 wl_1040 wl_1041 wl_854 wl_998 hd_X11_isBand ⟨Nat.le_of_ble_eq_true rfl, Nat.le_of_ble_eq_true rfl⟩ ⟨Nat.le_refl _, Nat.le_refl _⟩ (Nat.le_of_ble_eq_true rfl) rfl dX11_band_7 ?_
  refine x_if_ne F (tgt := 18) dX11_band_10 (by decide) (fun c10 => ?_) (fun c10 => ?_)
  · rw [if_neg c10] at h
    refine x_iload_n F dX11_band_18 rfl 2 rfl ?_
    by_cases c19_0 : v2 = 0
    · rw [if_pos c19_0] at h
      refine x_tableIn F (off := 33) (tgt := 52) dX11_band_19 (by rw [c19_0]; decide) (by rw [c19_0]; decide) (by rw [c19_0]; decide) (by decide) ?_
      refine x_aload_n F dX11_band_52 rfl 0 rfl ?_
      obtain ⟨x53, c53, h⟩ := bdS h
      refine x_getR F (ci := 11) (C := RX11) (T := TX11) (N := 45) rfl ⟨by decide, rfl⟩ inU11 14 (by decide) (fun _ _ _ => rfl) wl_913 c53 dX11_band_53 ?_
      refine x_iconst F (v := 5) dX11_band_56 (by decide) ?_
      refine x_iload_n F dX11_band_57 rfl 1 rfl ?_
      refine x_iadd F dX11_band_58 ?_
      obtain ⟨x59, c59, h⟩ := bdS h
      refine x_aI F c59 dX11_band_59 ?_
      obtain ⟨rfl, rfl⟩ := retS h
      exact x_iret F hr hl dX11_band_60
    rw [if_neg c19_0] at h
    by_cases c19_1 : v2 = 1
    · rw [if_pos c19_1] at h
      refine x_tableIn F (off := 42) (tgt := 61) dX11_band_19 (by rw [c19_1]; decide) (by rw [c19_1]; decide) (by rw [c19_1]; decide) (by decide) ?_
      refine x_aload_n F dX11_band_61 rfl 0 rfl ?_
      obtain ⟨x62, c62, h⟩ := bdS h
      refine x_getR F (ci := 11) (C := RX11) (T := TX11) (N := 45) rfl ⟨by decide, rfl⟩ inU11 14 (by decide) (fun _ _ _ => rfl) wl_913 c62 dX11_band_62 ?_
      refine x_bipush F (v := 11) dX11_band_65 (by decide) ?_
      refine x_iload_n F dX11_band_67 rfl 1 rfl ?_
      refine x_iadd F dX11_band_68 ?_
      obtain ⟨x69, c69, h⟩ := bdS h
      refine x_aI F c69 dX11_band_69 ?_
      obtain ⟨rfl, rfl⟩ := retS h
      exact x_iret F hr hl dX11_band_70
    rw [if_neg c19_1] at h
    by_cases c19_2 : v2 = 2
    · rw [if_pos c19_2] at h
      refine x_tableIn F (off := 52) (tgt := 71) dX11_band_19 (by rw [c19_2]; decide) (by rw [c19_2]; decide) (by rw [c19_2]; decide) (by decide) ?_
      refine x_aload_n F dX11_band_71 rfl 0 rfl ?_
      refine x_iload_n F dX11_band_72 rfl 1 rfl ?_
      obtain ⟨k73, h⟩ := gdS h
      obtain ⟨⟨x73, M73⟩, c73, h⟩ := bdS h
      dsimp only at h
      refine x_callV F (As := [.int v1]) (rest := []) (res := (some (.int x73))) (ci := 11) (q := (RX11, TX11, 45)) rfl (by decide) k73 (k_X11_signsOf l b D cy N v0 v1 M7 _ _ c73) wl_1045 wl_1046 wl_1047 wl_854 wl_1033 hd_X11_signsOf ⟨Nat.le_of_ble_eq_true rfl, Nat.le_of_ble_eq_true rfl⟩ ⟨Nat.le_refl _, Nat.le_refl _⟩ (Nat.le_of_ble_eq_true rfl) rfl dX11_band_73 ?_
      obtain ⟨rfl, rfl⟩ := retS h
      exact x_iret F hr hl dX11_band_76
    rw [if_neg c19_2] at h
    by_cases c19_3 : v2 = 3
    · rw [if_pos c19_3] at h
      refine x_tableIn F (off := 58) (tgt := 77) dX11_band_19 (by rw [c19_3]; decide) (by rw [c19_3]; decide) (by rw [c19_3]; decide) (by decide) ?_
      refine x_aload_n F dX11_band_77 rfl 0 rfl ?_
      obtain ⟨x78, c78, h⟩ := bdS h
      refine x_getR F (ci := 11) (C := RX11) (T := TX11) (N := 45) rfl ⟨by decide, rfl⟩ inU11 14 (by decide) (fun _ _ _ => rfl) wl_913 c78 dX11_band_78 ?_
      refine x_bipush F (v := 49) dX11_band_81 (by decide) ?_
      refine x_iload_n F dX11_band_83 rfl 1 rfl ?_
      refine x_iadd F dX11_band_84 ?_
      obtain ⟨x85, c85, h⟩ := bdS h
      refine x_aI F c85 dX11_band_85 ?_
      obtain ⟨rfl, rfl⟩ := retS h
      exact x_iret F hr hl dX11_band_86
    rw [if_neg c19_3] at h
    by_cases c19_4 : v2 = 4
    · rw [if_pos c19_4] at h
      refine x_tableIn F (off := 68) (tgt := 87) dX11_band_19 (by rw [c19_4]; decide) (by rw [c19_4]; decide) (by rw [c19_4]; decide) (by decide) ?_
      refine x_iconst F (v := 0) dX11_band_87 (by decide) ?_
      refine x_istore_n F (lv' := [(3, .int 0), (0, .ref (b + v0)), (1, .int v1), (2, .int v2)]) dX11_band_88 rfl (by decide) rfl ?_
      refine x_iconst F (v := 0) dX11_band_89 (by decide) ?_
      refine x_istore F (lv' := [(4, .int 0), (3, .int 0), (0, .ref (b + v0)), (1, .int v1), (2, .int v2)]) dX11_band_90 (by decide) rfl ?_
      have L92 : ∀ (v0 : Nat) (v1 : Int32) (n : Nat) (v3 : Int32) (v4 : Int32) (M : Mem) (o : Int32 × Mem), fX11_band_L92 N v0 v1 n v3 v4 M = some o → (∀ (r' : Int32) (M' : Mem), o = (r', M') → r' = r ∧ M' = Mf) → X p l e ({ frames := 6, cells := 0, slots := 0, locals := 100 * 6 }) s m args below meth c (MQ below (Qm b D cy (some (.int r)) Mf) args s 0 0 (fun q => b ≤ q)) 5 b D cy 0 0 M 92 [(0, .ref (b + v0)), (1, .int v1), (3, .int v3), (4, .int v4)] [] := by
        intro v0 v1 n
        induction n with
        | zero => intro v3 v4 M o h; exact absurd h (by rw [fX11_band_L92]; exact fun z => by cases z)
        | succ n ih =>
          intro v3 v4 M o h hR
          rw [fX11_band_L92] at h
          refine x_iload F dX11_band_92 3 rfl ?_
          refine x_aload_n F dX11_band_94 rfl 0 rfl ?_
          obtain ⟨x95, c95, h⟩ := bdS h
          refine x_getR F (ci := 11) (C := RX11) (T := TX11) (N := 45) rfl ⟨by decide, rfl⟩ inU11 14 (by decide) (fun _ _ _ => rfl) wl_913 c95 dX11_band_95 ?_
          refine x_iconst F (v := 2) dX11_band_98 (by decide) ?_
          obtain ⟨x99, c99, h⟩ := bdS h
          refine x_aI F c99 dX11_band_99 ?_
          refine x_icmp_ge F (tgt := 126) dX11_band_100 (by decide) (fun c100 => ?_) (fun c100 => ?_)
          · rw [if_pos c100] at h
            refine x_iload_n F dX11_band_126 rfl 2 rfl ?_
            obtain rfl := Option.some.inj h
            obtain ⟨rfl, rfl⟩ := hR _ _ rfl
            exact x_iret F hr hl dX11_band_127
          · rw [if_neg c100] at h
            refine x_aload_n F dX11_band_103 rfl 0 rfl ?_
            refine x_iload F dX11_band_104 3 rfl ?_
            refine x_iload_n F dX11_band_106 rfl 1 rfl ?_
            obtain ⟨k107, h⟩ := gdS h
            obtain ⟨⟨x107, M107⟩, c107, h⟩ := bdS h
            dsimp only at h
            refine x_callV F (As := [.int v4, .int v1]) (rest := []) (res := (some (.int x107))) (ci := 11) (q := (RX11, TX11, 45)) rfl (by decide) k107 (k_X11_isReadIn l b D cy N v0 v4 v1 M _ _ c107) wl_1029 wl_1030 wl_1031 wl_854 wl_1028 hd_X11_isReadIn ⟨Nat.le_of_ble_eq_true rfl, Nat.le_of_ble_eq_true rfl⟩ ⟨Nat.le_refl _, Nat.le_refl _⟩ (Nat.le_of_ble_eq_true rfl) rfl dX11_band_107 ?_
            refine x_if_eq F (tgt := 120) dX11_band_110 (by decide) (fun c110 => ?_) (fun c110 => ?_)
            · rw [if_pos c110] at h
              refine x_iinc F (v := v4 + 1) (lv' := [(4, .int (v4 + 1)), (0, .ref (b + v0)), (1, .int v1), (3, .int v3)]) dX11_band_120 3 rfl rfl (by decide) rfl ?_
              refine x_goto F (tgt := 92) dX11_band_123 (by decide) ?_
              refine x_sub [1, 2, 3, 0] rfl ?_
              exact ih v3 (v4 + 1) M107 o h hR
            · rw [if_neg c110] at h
              refine x_iload_n F dX11_band_113 rfl 2 rfl ?_
              refine x_iconst F (v := 1) dX11_band_114 (by decide) ?_
              refine x_iload F dX11_band_115 3 rfl ?_
              refine x_ishl F dX11_band_117 ?_
              refine x_ior F dX11_band_118 ?_
              refine x_istore_n F (lv' := [(3, .int (v3 ||| (1 <<< (v4 &&& 31)))), (0, .ref (b + v0)), (1, .int v1), (4, .int v4)]) dX11_band_119 rfl (by decide) rfl ?_
              refine x_iinc F (v := v4 + 1) (lv' := [(4, .int (v4 + 1)), (3, .int (v3 ||| (1 <<< (v4 &&& 31)))), (0, .ref (b + v0)), (1, .int v1)]) dX11_band_120 3 rfl rfl (by decide) rfl ?_
              refine x_goto F (tgt := 92) dX11_band_123 (by decide) ?_
              refine x_sub [2, 3, 1, 0] rfl ?_
              exact ih (v3 ||| (1 <<< (v4 &&& 31))) (v4 + 1) M107 o h hR
      obtain ⟨o92, h92, h⟩ := bdS h
      refine x_sub [2, 3, 1, 0] rfl ?_
      refine L92 v0 v1 N 0 0 M7 o92 h92 (fun r' M' e => ?_)
      · subst e
        try dsimp only at h
        obtain ⟨rfl, rfl⟩ := retS h; exact ⟨rfl, rfl⟩
    rw [if_neg c19_4] at h
    refine x_tableOut F (tgt := 128) dX11_band_19 (by have q0 := sw_ne (t := 0) c19_0 (by decide); have q1 := sw_ne (t := 1) c19_1 (by decide); have q2 := sw_ne (t := 2) c19_2 (by decide); have q3 := sw_ne (t := 3) c19_3 (by decide); have q4 := sw_ne (t := 4) c19_4 (by decide); omega) (by decide) ?_
    refine x_aload_n F dX11_band_128 rfl 0 rfl ?_
    obtain ⟨k129, h⟩ := gdS h
    obtain ⟨⟨x129, M129⟩, c129, h⟩ := bdS h
    dsimp only at h
    refine x_callV F (As := []) (rest := []) (res := (some (.int x129))) (ci := 11) (q := (RX11, TX11, 45)) rfl (by decide) k129 (k_X11_refuse l b D cy N v0 M7 _ _ c129) wl_1042 wl_1043 wl_1044 wl_854 wl_846 hd_X11_refuse ⟨Nat.le_of_ble_eq_true rfl, Nat.le_of_ble_eq_true rfl⟩ ⟨Nat.le_refl _, Nat.le_refl _⟩ (Nat.le_of_ble_eq_true rfl) rfl dX11_band_129 ?_
    obtain ⟨rfl, rfl⟩ := retS h
    exact x_iret F hr hl dX11_band_132
  · rw [if_pos c10] at h
    refine x_aload_n F dX11_band_13 rfl 0 rfl ?_
    obtain ⟨k14, h⟩ := gdS h
    obtain ⟨⟨x14, M14⟩, c14, h⟩ := bdS h
    dsimp only at h
    refine x_callV F (As := []) (rest := []) (res := (some (.int x14))) (ci := 11) (q := (RX11, TX11, 45)) rfl (by decide) k14 (k_X11_refuse l b D cy N v0 M7 _ _ c14) wl_1042 wl_1043 wl_1044 wl_854 wl_846 hd_X11_refuse ⟨Nat.le_of_ble_eq_true rfl, Nat.le_of_ble_eq_true rfl⟩ ⟨Nat.le_refl _, Nat.le_refl _⟩ (Nat.le_of_ble_eq_true rfl) rfl dX11_band_14 ?_
    obtain ⟨rfl, rfl⟩ := retS h
    exact x_iret F hr hl dX11_band_17
theorem hd_X11_isPlace : (yX11_isPlace).cls = RX11 ∧ (yX11_isPlace).cls ≠ "java/lang/invoke/MethodHandle" ∧ (yX11_isPlace).cls ≠ "java/lang/invoke/VarHandle" ∧ (parseMethodDescriptor (yX11_isPlace).desc).map (fun d => d.parameters.length) = some 2 := by decide +kernel
theorem dX11_sign_0 : decode cX11_sign 0 = .ok (.aload_n 0, 1) := by decide +kernel
theorem dX11_sign_1 : decode cX11_sign 1 = .ok (.iconst 0, 1) := by decide +kernel
theorem dX11_sign_2 : decode cX11_sign 2 = .ok (.putfield 1, 3) := by decide +kernel
theorem dX11_sign_5 : decode cX11_sign 5 = .ok (.aload_n 0, 1) := by decide +kernel
theorem dX11_sign_6 : decode cX11_sign 6 = .ok (.iload_n 1, 1) := by decide +kernel
theorem dX11_sign_7 : decode cX11_sign 7 = .ok (.invokevirtual 246, 3) := by decide +kernel
theorem dX11_sign_10 : decode cX11_sign 10 = .ok (.ifCond .eq 21, 3) := by decide +kernel
theorem dX11_sign_13 : decode cX11_sign 13 = .ok (.aload_n 0, 1) := by decide +kernel
theorem dX11_sign_14 : decode cX11_sign 14 = .ok (.iload_n 1, 1) := by decide +kernel
theorem dX11_sign_15 : decode cX11_sign 15 = .ok (.iload_n 2, 1) := by decide +kernel
theorem dX11_sign_16 : decode cX11_sign 16 = .ok (.invokevirtual 255, 3) := by decide +kernel
theorem dX11_sign_19 : decode cX11_sign 19 = .ok (.ifCond .eq 12, 3) := by decide +kernel
theorem dX11_sign_22 : decode cX11_sign 22 = .ok (.aload_n 0, 1) := by decide +kernel
theorem dX11_sign_23 : decode cX11_sign 23 = .ok (.iload_n 1, 1) := by decide +kernel
theorem dX11_sign_24 : decode cX11_sign 24 = .ok (.iload_n 2, 1) := by decide +kernel
theorem dX11_sign_25 : decode cX11_sign 25 = .ok (.invokevirtual 219, 3) := by decide +kernel
theorem dX11_sign_28 : decode cX11_sign 28 = .ok (.goto 4, 3) := by decide +kernel
theorem dX11_sign_31 : decode cX11_sign 31 = .ok (.iconst (-1), 1) := by decide +kernel
theorem dX11_sign_32 : decode cX11_sign 32 = .ok (.ireturn, 1) := by decide +kernel
def fX11_sign (N : Nat) (v0 : Nat) (v1 : Int32) (v2 : Int32) (M : Mem) : Option (Int32 × Mem) := ((pI M 11 v0 0 0).bind fun M2 => (if mK M2 v0 = 12 then ((fX11_isBand N v0 v1 M2).bind fun (x7, M7) => (if x7 = 0 then some ((-1), M7) else (if mK M7 v0 = 12 then ((fX11_isPlace N v0 v1 v2 M7).bind fun (x16, M16) => (if x16 = 0 then some ((-1), M16) else (if mK M16 v0 = 12 then ((fX11_signAt N v0 v1 v2 M16).bind fun (x25, M25) => some (x25, M25)) else none))) else none))) else none))
set_option maxHeartbeats 4000000 in
set_option maxRecDepth 100000 in
theorem k_X11_sign (l : Launch) (b : Nat) (D : va_G) (cy : Nat → ClassId) (N : Nat) (v0 : Nat) (v1 : Int32) (v2 : Int32) (M : Mem) (r : Int32) (Mf : Mem) (h : fX11_sign N v0 v1 v2 M = some (r, Mf)) : Ct l yX11_sign cX11_sign 3 (some .int) 3 0 0 b D cy [.ref (b + v0), .int v1, .int v2] M (some (.int r)) Mf := by
  refine Ct_of (own := RX11) (by decide) rfl (Nat.le_of_ble_eq_true rfl) ?_
  intro p e s m args below meth c F hr hl hmn
  unfold fX11_sign at h
  show X p l e ({ frames := 3, cells := 0, slots := 0, locals := 100 * 3 }) s m args below meth c (MQ below (Qm b D cy (some (.int r)) Mf) args s 0 0 (fun q => b ≤ q)) 3 b D cy 0 0 M 0 [(0, .ref (b + v0)), (1, .int v1), (2, .int v2)] []
  refine x_aload_n F dX11_sign_0 rfl 0 rfl ?_
  refine x_iconst F (v := 0) dX11_sign_1 (by decide) ?_
  obtain ⟨M2, c2, h⟩ := bdS h
  refine x_putI F (ci := 11) (C := RX11) (T := TX11) (N := 45) rfl ⟨by decide, rfl⟩ inU11 tyX11_ok nmX11 0 (by decide) rfl rfl wl_845 c2 dX11_sign_2 ?_
  refine x_aload_n F dX11_sign_5 rfl 0 rfl ?_
  refine x_iload_n F dX11_sign_6 rfl 1 rfl ?_
  obtain ⟨k7, h⟩ := gdS h
  obtain ⟨⟨x7, M7⟩, c7, h⟩ := bdS h
  dsimp only at h
  refine x_callV F (As := [.int v1]) (rest := []) (res := (some (.int x7))) (ci := 11) (q := (RX11, TX11, 45)) rfl (by decide) k7 (k_X11_isBand l b D cy N v0 v1 M2 _ _ c7) wl_1039 wl_1040 wl_1041 wl_854 wl_998 hd_X11_isBand ⟨Nat.le_of_ble_eq_true rfl, Nat.le_of_ble_eq_true rfl⟩ ⟨Nat.le_refl _, Nat.le_refl _⟩ (Nat.le_of_ble_eq_true rfl) rfl dX11_sign_7 ?_
  refine x_if_eq F (tgt := 31) dX11_sign_10 (by decide) (fun c10 => ?_) (fun c10 => ?_)
  · rw [if_pos c10] at h
    refine x_iconst F (v := (-1)) dX11_sign_31 (by decide) ?_
    obtain ⟨rfl, rfl⟩ := retS h
    exact x_iret F hr hl dX11_sign_32
  · rw [if_neg c10] at h
    refine x_aload_n F dX11_sign_13 rfl 0 rfl ?_
    refine x_iload_n F dX11_sign_14 rfl 1 rfl ?_
    refine x_iload_n F dX11_sign_15 rfl 2 rfl ?_
    obtain ⟨k16, h⟩ := gdS h
    obtain ⟨⟨x16, M16⟩, c16, h⟩ := bdS h
    dsimp only at h
    refine x_callV F (As := [.int v1, .int v2]) (rest := []) (res := (some (.int x16))) (ci := 11) (q := (RX11, TX11, 45)) rfl (by decide) k16 (k_X11_isPlace l b D cy N v0 v1 v2 M7 _ _ c16) wl_1050 wl_1051 wl_1052 wl_854 wl_1001 hd_X11_isPlace ⟨Nat.le_of_ble_eq_true rfl, Nat.le_of_ble_eq_true rfl⟩ ⟨Nat.le_refl _, Nat.le_refl _⟩ (Nat.le_of_ble_eq_true rfl) rfl dX11_sign_16 ?_
    refine x_if_eq F (tgt := 31) dX11_sign_19 (by decide) (fun c19 => ?_) (fun c19 => ?_)
    · rw [if_pos c19] at h
      refine x_iconst F (v := (-1)) dX11_sign_31 (by decide) ?_
      obtain ⟨rfl, rfl⟩ := retS h
      exact x_iret F hr hl dX11_sign_32
    · rw [if_neg c19] at h
      refine x_aload_n F dX11_sign_22 rfl 0 rfl ?_
      refine x_iload_n F dX11_sign_23 rfl 1 rfl ?_
      refine x_iload_n F dX11_sign_24 rfl 2 rfl ?_
      obtain ⟨k25, h⟩ := gdS h
      obtain ⟨⟨x25, M25⟩, c25, h⟩ := bdS h
      dsimp only at h
      refine x_callV F (As := [.int v1, .int v2]) (rest := []) (res := (some (.int x25))) (ci := 11) (q := (RX11, TX11, 45)) rfl (by decide) k25 (k_X11_signAt l b D cy N v0 v1 v2 M16 _ _ c25) wl_1011 wl_1012 wl_1013 wl_854 wl_1002 hd_X11_signAt ⟨Nat.le_of_ble_eq_true rfl, Nat.le_of_ble_eq_true rfl⟩ ⟨Nat.le_refl _, Nat.le_refl _⟩ (Nat.le_of_ble_eq_true rfl) rfl dX11_sign_25 ?_
      refine x_goto F (tgt := 32) dX11_sign_28 (by decide) ?_
      obtain ⟨rfl, rfl⟩ := retS h
      exact x_iret F hr hl dX11_sign_32
theorem dX11_hand_0 : decode cX11_hand 0 = .ok (.aload_n 0, 1) := by decide +kernel
theorem dX11_hand_1 : decode cX11_hand 1 = .ok (.iconst 0, 1) := by decide +kernel
theorem dX11_hand_2 : decode cX11_hand 2 = .ok (.putfield 1, 3) := by decide +kernel
theorem dX11_hand_5 : decode cX11_hand 5 = .ok (.aload_n 0, 1) := by decide +kernel
theorem dX11_hand_6 : decode cX11_hand 6 = .ok (.iload_n 1, 1) := by decide +kernel
theorem dX11_hand_7 : decode cX11_hand 7 = .ok (.invokevirtual 246, 3) := by decide +kernel
theorem dX11_hand_10 : decode cX11_hand 10 = .ok (.ifCond .eq 29, 3) := by decide +kernel
theorem dX11_hand_13 : decode cX11_hand 13 = .ok (.aload_n 0, 1) := by decide +kernel
theorem dX11_hand_14 : decode cX11_hand 14 = .ok (.iload_n 1, 1) := by decide +kernel
theorem dX11_hand_15 : decode cX11_hand 15 = .ok (.iload_n 2, 1) := by decide +kernel
theorem dX11_hand_16 : decode cX11_hand 16 = .ok (.invokevirtual 255, 3) := by decide +kernel
theorem dX11_hand_19 : decode cX11_hand 19 = .ok (.ifCond .eq 20, 3) := by decide +kernel
theorem dX11_hand_22 : decode cX11_hand 22 = .ok (.aload_n 0, 1) := by decide +kernel
theorem dX11_hand_23 : decode cX11_hand 23 = .ok (.getfield 98, 3) := by decide +kernel
theorem dX11_hand_26 : decode cX11_hand 26 = .ok (.bipush 127, 2) := by decide +kernel
theorem dX11_hand_28 : decode cX11_hand 28 = .ok (.bipush 12, 2) := by decide +kernel
theorem dX11_hand_30 : decode cX11_hand 30 = .ok (.iload_n 1, 1) := by decide +kernel
theorem dX11_hand_31 : decode cX11_hand 31 = .ok (.imul, 1) := by decide +kernel
theorem dX11_hand_32 : decode cX11_hand 32 = .ok (.iadd, 1) := by decide +kernel
theorem dX11_hand_33 : decode cX11_hand 33 = .ok (.iload_n 2, 1) := by decide +kernel
theorem dX11_hand_34 : decode cX11_hand 34 = .ok (.iadd, 1) := by decide +kernel
theorem dX11_hand_35 : decode cX11_hand 35 = .ok (.iaload, 1) := by decide +kernel
theorem dX11_hand_36 : decode cX11_hand 36 = .ok (.goto 4, 3) := by decide +kernel
theorem dX11_hand_39 : decode cX11_hand 39 = .ok (.iconst (-1), 1) := by decide +kernel
theorem dX11_hand_40 : decode cX11_hand 40 = .ok (.ireturn, 1) := by decide +kernel
def fX11_hand (N : Nat) (v0 : Nat) (v1 : Int32) (v2 : Int32) (M : Mem) : Option (Int32 × Mem) := ((pI M 11 v0 0 0).bind fun M2 => (if mK M2 v0 = 12 then ((fX11_isBand N v0 v1 M2).bind fun (x7, M7) => (if x7 = 0 then some ((-1), M7) else (if mK M7 v0 = 12 then ((fX11_isPlace N v0 v1 v2 M7).bind fun (x16, M16) => (if x16 = 0 then some ((-1), M16) else ((fR M16 11 v0 14).bind fun x23 => ((aI M16 x23 ((127 + (12 * v1)) + v2)).bind fun x35 => some (x35, M16))))) else none))) else none))
set_option maxHeartbeats 4000000 in
set_option maxRecDepth 100000 in
theorem k_X11_hand (l : Launch) (b : Nat) (D : va_G) (cy : Nat → ClassId) (N : Nat) (v0 : Nat) (v1 : Int32) (v2 : Int32) (M : Mem) (r : Int32) (Mf : Mem) (h : fX11_hand N v0 v1 v2 M = some (r, Mf)) : Ct l yX11_hand cX11_hand 3 (some .int) 3 0 0 b D cy [.ref (b + v0), .int v1, .int v2] M (some (.int r)) Mf := by
  refine Ct_of (own := RX11) (by decide) rfl (Nat.le_of_ble_eq_true rfl) ?_
  intro p e s m args below meth c F hr hl hmn
  unfold fX11_hand at h
  show X p l e ({ frames := 3, cells := 0, slots := 0, locals := 100 * 3 }) s m args below meth c (MQ below (Qm b D cy (some (.int r)) Mf) args s 0 0 (fun q => b ≤ q)) 3 b D cy 0 0 M 0 [(0, .ref (b + v0)), (1, .int v1), (2, .int v2)] []
  refine x_aload_n F dX11_hand_0 rfl 0 rfl ?_
  refine x_iconst F (v := 0) dX11_hand_1 (by decide) ?_
  obtain ⟨M2, c2, h⟩ := bdS h
  refine x_putI F (ci := 11) (C := RX11) (T := TX11) (N := 45) rfl ⟨by decide, rfl⟩ inU11 tyX11_ok nmX11 0 (by decide) rfl rfl wl_845 c2 dX11_hand_2 ?_
  refine x_aload_n F dX11_hand_5 rfl 0 rfl ?_
  refine x_iload_n F dX11_hand_6 rfl 1 rfl ?_
  obtain ⟨k7, h⟩ := gdS h
  obtain ⟨⟨x7, M7⟩, c7, h⟩ := bdS h
  dsimp only at h
  refine x_callV F (As := [.int v1]) (rest := []) (res := (some (.int x7))) (ci := 11) (q := (RX11, TX11, 45)) rfl (by decide) k7 (k_X11_isBand l b D cy N v0 v1 M2 _ _ c7) wl_1039 wl_1040 wl_1041 wl_854 wl_998 hd_X11_isBand ⟨Nat.le_of_ble_eq_true rfl, Nat.le_of_ble_eq_true rfl⟩ ⟨Nat.le_refl _, Nat.le_refl _⟩ (Nat.le_of_ble_eq_true rfl) rfl dX11_hand_7 ?_
  refine x_if_eq F (tgt := 39) dX11_hand_10 (by decide) (fun c10 => ?_) (fun c10 => ?_)
  · rw [if_pos c10] at h
    refine x_iconst F (v := (-1)) dX11_hand_39 (by decide) ?_
    obtain ⟨rfl, rfl⟩ := retS h
    exact x_iret F hr hl dX11_hand_40
  · rw [if_neg c10] at h
    refine x_aload_n F dX11_hand_13 rfl 0 rfl ?_
    refine x_iload_n F dX11_hand_14 rfl 1 rfl ?_
    refine x_iload_n F dX11_hand_15 rfl 2 rfl ?_
    obtain ⟨k16, h⟩ := gdS h
    obtain ⟨⟨x16, M16⟩, c16, h⟩ := bdS h
    dsimp only at h
    refine x_callV F (As := [.int v1, .int v2]) (rest := []) (res := (some (.int x16))) (ci := 11) (q := (RX11, TX11, 45)) rfl (by decide) k16 (k_X11_isPlace l b D cy N v0 v1 v2 M7 _ _ c16) wl_1050 wl_1051 wl_1052 wl_854 wl_1001 hd_X11_isPlace ⟨Nat.le_of_ble_eq_true rfl, Nat.le_of_ble_eq_true rfl⟩ ⟨Nat.le_refl _, Nat.le_refl _⟩ (Nat.le_of_ble_eq_true rfl) rfl dX11_hand_16 ?_
    refine x_if_eq F (tgt := 39) dX11_hand_19 (by decide) (fun c19 => ?_) (fun c19 => ?_)
    · rw [if_pos c19] at h
      refine x_iconst F (v := (-1)) dX11_hand_39 (by decide) ?_
      obtain ⟨rfl, rfl⟩ := retS h
      exact x_iret F hr hl dX11_hand_40
    · rw [if_neg c19] at h
      refine x_aload_n F dX11_hand_22 rfl 0 rfl ?_
      obtain ⟨x23, c23, h⟩ := bdS h
      refine x_getR F (ci := 11) (C := RX11) (T := TX11) (N := 45) rfl ⟨by decide, rfl⟩ inU11 14 (by decide) (fun _ _ _ => rfl) wl_913 c23 dX11_hand_23 ?_
      refine x_bipush F (v := 127) dX11_hand_26 (by decide) ?_
      refine x_bipush F (v := 12) dX11_hand_28 (by decide) ?_
      refine x_iload_n F dX11_hand_30 rfl 1 rfl ?_
      refine x_imul F dX11_hand_31 ?_
      refine x_iadd F dX11_hand_32 ?_
      refine x_iload_n F dX11_hand_33 rfl 2 rfl ?_
      refine x_iadd F dX11_hand_34 ?_
      obtain ⟨x35, c35, h⟩ := bdS h
      refine x_aI F c35 dX11_hand_35 ?_
      refine x_goto F (tgt := 40) dX11_hand_36 (by decide) ?_
      obtain ⟨rfl, rfl⟩ := retS h
      exact x_iret F hr hl dX11_hand_40
theorem hd_X11_isLaw : (yX11_isLaw).cls = RX11 ∧ (yX11_isLaw).cls ≠ "java/lang/invoke/MethodHandle" ∧ (yX11_isLaw).cls ≠ "java/lang/invoke/VarHandle" ∧ (parseMethodDescriptor (yX11_isLaw).desc).map (fun d => d.parameters.length) = some 1 := by decide +kernel
theorem hd_X11_has : (yX11_has).cls = RX11 ∧ (yX11_has).cls ≠ "java/lang/invoke/MethodHandle" ∧ (yX11_has).cls ≠ "java/lang/invoke/VarHandle" ∧ (parseMethodDescriptor (yX11_has).desc).map (fun d => d.parameters.length) = some 2 := by decide +kernel
theorem hd_X11_readIn : (yX11_readIn).cls = RX11 ∧ (yX11_readIn).cls ≠ "java/lang/invoke/MethodHandle" ∧ (yX11_readIn).cls ≠ "java/lang/invoke/VarHandle" ∧ (parseMethodDescriptor (yX11_readIn).desc).map (fun d => d.parameters.length) = some 1 := by decide +kernel
theorem dX11_law_0 : decode cX11_law 0 = .ok (.aload_n 0, 1) := by decide +kernel
theorem dX11_law_1 : decode cX11_law 1 = .ok (.iconst 0, 1) := by decide +kernel
theorem dX11_law_2 : decode cX11_law 2 = .ok (.putfield 1, 3) := by decide +kernel
theorem dX11_law_5 : decode cX11_law 5 = .ok (.aload_n 0, 1) := by decide +kernel
theorem dX11_law_6 : decode cX11_law 6 = .ok (.iload_n 1, 1) := by decide +kernel
theorem dX11_law_7 : decode cX11_law 7 = .ok (.invokevirtual 258, 3) := by decide +kernel
theorem dX11_law_10 : decode cX11_law 10 = .ok (.ifCond .ne 8, 3) := by decide +kernel
theorem dX11_law_13 : decode cX11_law 13 = .ok (.aload_n 0, 1) := by decide +kernel
theorem dX11_law_14 : decode cX11_law 14 = .ok (.invokevirtual 249, 3) := by decide +kernel
theorem dX11_law_17 : decode cX11_law 17 = .ok (.ireturn, 1) := by decide +kernel
theorem dX11_law_18 : decode cX11_law 18 = .ok (.iload_n 2, 1) := by decide +kernel
theorem dX11_law_19 : decode cX11_law 19 = .ok (.tableswitch 111 0 4 #[33, 39, 49, 69, 75], 33) := by decide +kernel
theorem dX11_law_52 : decode cX11_law 52 = .ok (.aload_n 0, 1) := by decide +kernel
theorem dX11_law_53 : decode cX11_law 53 = .ok (.iload_n 1, 1) := by decide +kernel
theorem dX11_law_54 : decode cX11_law 54 = .ok (.invokevirtual 216, 3) := by decide +kernel
theorem dX11_law_57 : decode cX11_law 57 = .ok (.ireturn, 1) := by decide +kernel
theorem dX11_law_58 : decode cX11_law 58 = .ok (.aload_n 0, 1) := by decide +kernel
theorem dX11_law_59 : decode cX11_law 59 = .ok (.getfield 98, 3) := by decide +kernel
theorem dX11_law_62 : decode cX11_law 62 = .ok (.bipush 39, 2) := by decide +kernel
theorem dX11_law_64 : decode cX11_law 64 = .ok (.iload_n 1, 1) := by decide +kernel
theorem dX11_law_65 : decode cX11_law 65 = .ok (.iadd, 1) := by decide +kernel
theorem dX11_law_66 : decode cX11_law 66 = .ok (.iaload, 1) := by decide +kernel
theorem dX11_law_67 : decode cX11_law 67 = .ok (.ireturn, 1) := by decide +kernel
theorem dX11_law_68 : decode cX11_law 68 = .ok (.aload_n 0, 1) := by decide +kernel
theorem dX11_law_69 : decode cX11_law 69 = .ok (.getfield 98, 3) := by decide +kernel
theorem dX11_law_72 : decode cX11_law 72 = .ok (.bipush 38, 2) := by decide +kernel
theorem dX11_law_74 : decode cX11_law 74 = .ok (.iaload, 1) := by decide +kernel
theorem dX11_law_75 : decode cX11_law 75 = .ok (.iload_n 1, 1) := by decide +kernel
theorem dX11_law_76 : decode cX11_law 76 = .ok (.invokestatic 261, 3) := by decide +kernel
theorem dX11_law_79 : decode cX11_law 79 = .ok (.ifCond .eq 7, 3) := by decide +kernel
theorem dX11_law_82 : decode cX11_law 82 = .ok (.iconst 1, 1) := by decide +kernel
theorem dX11_law_83 : decode cX11_law 83 = .ok (.goto 4, 3) := by decide +kernel
theorem dX11_law_86 : decode cX11_law 86 = .ok (.iconst 0, 1) := by decide +kernel
theorem dX11_law_87 : decode cX11_law 87 = .ok (.ireturn, 1) := by decide +kernel
theorem dX11_law_88 : decode cX11_law 88 = .ok (.aload_n 0, 1) := by decide +kernel
theorem dX11_law_89 : decode cX11_law 89 = .ok (.iload_n 1, 1) := by decide +kernel
theorem dX11_law_90 : decode cX11_law 90 = .ok (.invokevirtual 264, 3) := by decide +kernel
theorem dX11_law_93 : decode cX11_law 93 = .ok (.ireturn, 1) := by decide +kernel
theorem dX11_law_94 : decode cX11_law 94 = .ok (.iconst 0, 1) := by decide +kernel
theorem dX11_law_95 : decode cX11_law 95 = .ok (.istore_n 3, 1) := by decide +kernel
theorem dX11_law_96 : decode cX11_law 96 = .ok (.iconst 0, 1) := by decide +kernel
theorem dX11_law_97 : decode cX11_law 97 = .ok (.istore 4, 2) := by decide +kernel
theorem dX11_law_99 : decode cX11_law 99 = .ok (.iload 4, 2) := by decide +kernel
theorem dX11_law_101 : decode cX11_law 101 = .ok (.aload_n 0, 1) := by decide +kernel
theorem dX11_law_102 : decode cX11_law 102 = .ok (.iload_n 1, 1) := by decide +kernel
theorem dX11_law_103 : decode cX11_law 103 = .ok (.invokevirtual 216, 3) := by decide +kernel
theorem dX11_law_106 : decode cX11_law 106 = .ok (.if_icmp .ge 22, 3) := by decide +kernel
theorem dX11_law_109 : decode cX11_law 109 = .ok (.iload_n 3, 1) := by decide +kernel
theorem dX11_law_110 : decode cX11_law 110 = .ok (.aload_n 0, 1) := by decide +kernel
theorem dX11_law_111 : decode cX11_law 111 = .ok (.iload_n 1, 1) := by decide +kernel
theorem dX11_law_112 : decode cX11_law 112 = .ok (.iload 4, 2) := by decide +kernel
theorem dX11_law_114 : decode cX11_law 114 = .ok (.invokevirtual 223, 3) := by decide +kernel
theorem dX11_law_117 : decode cX11_law 117 = .ok (.invokestatic 227, 3) := by decide +kernel
theorem dX11_law_120 : decode cX11_law 120 = .ok (.iadd, 1) := by decide +kernel
theorem dX11_law_121 : decode cX11_law 121 = .ok (.istore_n 3, 1) := by decide +kernel
theorem dX11_law_122 : decode cX11_law 122 = .ok (.iinc 4 1, 3) := by decide +kernel
theorem dX11_law_125 : decode cX11_law 125 = .ok (.goto (-26), 3) := by decide +kernel
theorem dX11_law_128 : decode cX11_law 128 = .ok (.iload_n 3, 1) := by decide +kernel
theorem dX11_law_129 : decode cX11_law 129 = .ok (.ireturn, 1) := by decide +kernel
theorem dX11_law_130 : decode cX11_law 130 = .ok (.aload_n 0, 1) := by decide +kernel
theorem dX11_law_131 : decode cX11_law 131 = .ok (.invokevirtual 249, 3) := by decide +kernel
theorem dX11_law_134 : decode cX11_law 134 = .ok (.ireturn, 1) := by decide +kernel
def fX11_law_L99 (N : Nat) (v0 : Nat) (v1 : Int32) : Nat → Int32 → Int32 → Mem → Option (Int32 × Mem)
  | 0, _, _, _ => none
  | n + 1, v3, v4, M => (if mK M v0 = 12 then ((fX11_longOf N v0 v1 M).bind fun (x103, M103) => (if x103 ≤ v4 then some (v3, M103) else (if mK M103 v0 = 12 then ((fX11_signOf N v0 v1 v4 M103).bind fun (x114, M114) => ((fX11_strokesOf N x114 M114).bind fun (x117, M117) => fX11_law_L99 N v0 v1 n (v3 + x117) (v4 + 1) M117)) else none))) else none)
def fX11_law (N : Nat) (v0 : Nat) (v1 : Int32) (v2 : Int32) (M : Mem) : Option (Int32 × Mem) := ((pI M 11 v0 0 0).bind fun M2 => (if mK M2 v0 = 12 then ((fX11_isLaw N v0 v1 M2).bind fun (x7, M7) => (if x7 = 0 then (if mK M7 v0 = 12 then ((fX11_refuse N v0 M7).bind fun (x14, M14) => some (x14, M14)) else none) else (if v2 = 0 then (if mK M7 v0 = 12 then ((fX11_longOf N v0 v1 M7).bind fun (x54, M54) => some (x54, M54)) else none) else (if v2 = 1 then ((fR M7 11 v0 14).bind fun x59 => ((aI M7 x59 (39 + v1)).bind fun x66 => some (x66, M7))) else (if v2 = 2 then ((fR M7 11 v0 14).bind fun x69 => ((aI M7 x69 38).bind fun x74 => ((fX11_has N x74 v1 M7).bind fun (x76, M76) => (if x76 = 0 then some (0, M76) else some (1, M76))))) else (if v2 = 3 then (if mK M7 v0 = 12 then ((fX11_readIn N v0 v1 M7).bind fun (x90, M90) => some (x90, M90)) else none) else (if v2 = 4 then ((fX11_law_L99 N v0 v1 N 0 0 M7).bind fun o99 => some o99) else (if mK M7 v0 = 12 then ((fX11_refuse N v0 M7).bind fun (x131, M131) => some (x131, M131)) else none)))))))) else none))
set_option maxHeartbeats 4000000 in
set_option maxRecDepth 100000 in
theorem k_X11_law (l : Launch) (b : Nat) (D : va_G) (cy : Nat → ClassId) (N : Nat) (v0 : Nat) (v1 : Int32) (v2 : Int32) (M : Mem) (r : Int32) (Mf : Mem) (h : fX11_law N v0 v1 v2 M = some (r, Mf)) : Ct l yX11_law cX11_law 5 (some .int) 7 0 0 b D cy [.ref (b + v0), .int v1, .int v2] M (some (.int r)) Mf := by
  refine Ct_of (own := RX11) (by decide) rfl (Nat.le_of_ble_eq_true rfl) ?_
  intro p e s m args below meth c F hr hl hmn
  unfold fX11_law at h
  show X p l e ({ frames := 7, cells := 0, slots := 0, locals := 100 * 7 }) s m args below meth c (MQ below (Qm b D cy (some (.int r)) Mf) args s 0 0 (fun q => b ≤ q)) 5 b D cy 0 0 M 0 [(0, .ref (b + v0)), (1, .int v1), (2, .int v2)] []
  refine x_aload_n F dX11_law_0 rfl 0 rfl ?_
  refine x_iconst F (v := 0) dX11_law_1 (by decide) ?_
  obtain ⟨M2, c2, h⟩ := bdS h
  refine x_putI F (ci := 11) (C := RX11) (T := TX11) (N := 45) rfl ⟨by decide, rfl⟩ inU11 tyX11_ok nmX11 0 (by decide) rfl rfl wl_845 c2 dX11_law_2 ?_
  refine x_aload_n F dX11_law_5 rfl 0 rfl ?_
  refine x_iload_n F dX11_law_6 rfl 1 rfl ?_
  obtain ⟨k7, h⟩ := gdS h
  obtain ⟨⟨x7, M7⟩, c7, h⟩ := bdS h
  dsimp only at h
  refine x_callV F (As := [.int v1]) (rest := []) (res := (some (.int x7))) (ci := 11) (q := (RX11, TX11, 45)) rfl (by decide) k7 (k_X11_isLaw l b D cy N v0 v1 M2 _ _ c7) wl_1054 wl_1055 wl_1056 wl_854 wl_1000 hd_X11_isLaw ⟨Nat.le_of_ble_eq_true rfl, Nat.le_of_ble_eq_true rfl⟩ ⟨Nat.le_refl _, Nat.le_refl _⟩ (Nat.le_of_ble_eq_true rfl) rfl dX11_law_7 ?_
  refine x_if_ne F (tgt := 18) dX11_law_10 (by decide) (fun c10 => ?_) (fun c10 => ?_)
  · rw [if_neg c10] at h
    refine x_iload_n F dX11_law_18 rfl 2 rfl ?_
    by_cases c19_0 : v2 = 0
    · rw [if_pos c19_0] at h
      refine x_tableIn F (off := 33) (tgt := 52) dX11_law_19 (by rw [c19_0]; decide) (by rw [c19_0]; decide) (by rw [c19_0]; decide) (by decide) ?_
      refine x_aload_n F dX11_law_52 rfl 0 rfl ?_
      refine x_iload_n F dX11_law_53 rfl 1 rfl ?_
      obtain ⟨k54, h⟩ := gdS h
      obtain ⟨⟨x54, M54⟩, c54, h⟩ := bdS h
      dsimp only at h
      refine x_callV F (As := [.int v1]) (rest := []) (res := (some (.int x54))) (ci := 11) (q := (RX11, TX11, 45)) rfl (by decide) k54 (k_X11_longOf l b D cy N v0 v1 M7 _ _ c54) wl_1005 wl_1006 wl_1007 wl_854 wl_1003 hd_X11_longOf ⟨Nat.le_of_ble_eq_true rfl, Nat.le_of_ble_eq_true rfl⟩ ⟨Nat.le_refl _, Nat.le_refl _⟩ (Nat.le_of_ble_eq_true rfl) rfl dX11_law_54 ?_
      obtain ⟨rfl, rfl⟩ := retS h
      exact x_iret F hr hl dX11_law_57
    rw [if_neg c19_0] at h
    by_cases c19_1 : v2 = 1
    · rw [if_pos c19_1] at h
      refine x_tableIn F (off := 39) (tgt := 58) dX11_law_19 (by rw [c19_1]; decide) (by rw [c19_1]; decide) (by rw [c19_1]; decide) (by decide) ?_
      refine x_aload_n F dX11_law_58 rfl 0 rfl ?_
      obtain ⟨x59, c59, h⟩ := bdS h
      refine x_getR F (ci := 11) (C := RX11) (T := TX11) (N := 45) rfl ⟨by decide, rfl⟩ inU11 14 (by decide) (fun _ _ _ => rfl) wl_913 c59 dX11_law_59 ?_
      refine x_bipush F (v := 39) dX11_law_62 (by decide) ?_
      refine x_iload_n F dX11_law_64 rfl 1 rfl ?_
      refine x_iadd F dX11_law_65 ?_
      obtain ⟨x66, c66, h⟩ := bdS h
      refine x_aI F c66 dX11_law_66 ?_
      obtain ⟨rfl, rfl⟩ := retS h
      exact x_iret F hr hl dX11_law_67
    rw [if_neg c19_1] at h
    by_cases c19_2 : v2 = 2
    · rw [if_pos c19_2] at h
      refine x_tableIn F (off := 49) (tgt := 68) dX11_law_19 (by rw [c19_2]; decide) (by rw [c19_2]; decide) (by rw [c19_2]; decide) (by decide) ?_
      refine x_aload_n F dX11_law_68 rfl 0 rfl ?_
      obtain ⟨x69, c69, h⟩ := bdS h
      refine x_getR F (ci := 11) (C := RX11) (T := TX11) (N := 45) rfl ⟨by decide, rfl⟩ inU11 14 (by decide) (fun _ _ _ => rfl) wl_913 c69 dX11_law_69 ?_
      refine x_bipush F (v := 38) dX11_law_72 (by decide) ?_
      obtain ⟨x74, c74, h⟩ := bdS h
      refine x_aI F c74 dX11_law_74 ?_
      refine x_iload_n F dX11_law_75 rfl 1 rfl ?_
      obtain ⟨⟨x76, M76⟩, c76, h⟩ := bdS h
      dsimp only at h
      refine x_callS F (As := [.int x74, .int v1]) (rest := []) (res := (some (.int x76))) (k_X11_has l b D cy N x74 v1 M7 _ _ c76) wl_1057 wl_1058 wl_854 wl_858 (hd_X11_has).2 ⟨Nat.le_of_ble_eq_true rfl, Nat.le_of_ble_eq_true rfl⟩ ⟨Nat.le_refl _, Nat.le_refl _⟩ (Nat.le_of_ble_eq_true rfl) rfl dX11_law_76 ?_
      refine x_if_eq F (tgt := 86) dX11_law_79 (by decide) (fun c79 => ?_) (fun c79 => ?_)
      · rw [if_pos c79] at h
        refine x_iconst F (v := 0) dX11_law_86 (by decide) ?_
        obtain ⟨rfl, rfl⟩ := retS h
        exact x_iret F hr hl dX11_law_87
      · rw [if_neg c79] at h
        refine x_iconst F (v := 1) dX11_law_82 (by decide) ?_
        refine x_goto F (tgt := 87) dX11_law_83 (by decide) ?_
        obtain ⟨rfl, rfl⟩ := retS h
        exact x_iret F hr hl dX11_law_87
    rw [if_neg c19_2] at h
    by_cases c19_3 : v2 = 3
    · rw [if_pos c19_3] at h
      refine x_tableIn F (off := 69) (tgt := 88) dX11_law_19 (by rw [c19_3]; decide) (by rw [c19_3]; decide) (by rw [c19_3]; decide) (by decide) ?_
      refine x_aload_n F dX11_law_88 rfl 0 rfl ?_
      refine x_iload_n F dX11_law_89 rfl 1 rfl ?_
      obtain ⟨k90, h⟩ := gdS h
      obtain ⟨⟨x90, M90⟩, c90, h⟩ := bdS h
      dsimp only at h
      refine x_callV F (As := [.int v1]) (rest := []) (res := (some (.int x90))) (ci := 11) (q := (RX11, TX11, 45)) rfl (by decide) k90 (k_X11_readIn l b D cy N v0 v1 M7 _ _ c90) wl_1059 wl_1060 wl_1061 wl_854 wl_1032 hd_X11_readIn ⟨Nat.le_of_ble_eq_true rfl, Nat.le_of_ble_eq_true rfl⟩ ⟨Nat.le_refl _, Nat.le_refl _⟩ (Nat.le_of_ble_eq_true rfl) rfl dX11_law_90 ?_
      obtain ⟨rfl, rfl⟩ := retS h
      exact x_iret F hr hl dX11_law_93
    rw [if_neg c19_3] at h
    by_cases c19_4 : v2 = 4
    · rw [if_pos c19_4] at h
      refine x_tableIn F (off := 75) (tgt := 94) dX11_law_19 (by rw [c19_4]; decide) (by rw [c19_4]; decide) (by rw [c19_4]; decide) (by decide) ?_
      refine x_iconst F (v := 0) dX11_law_94 (by decide) ?_
      refine x_istore_n F (lv' := [(3, .int 0), (0, .ref (b + v0)), (1, .int v1), (2, .int v2)]) dX11_law_95 rfl (by decide) rfl ?_
      refine x_iconst F (v := 0) dX11_law_96 (by decide) ?_
      refine x_istore F (lv' := [(4, .int 0), (3, .int 0), (0, .ref (b + v0)), (1, .int v1), (2, .int v2)]) dX11_law_97 (by decide) rfl ?_
      have L99 : ∀ (v0 : Nat) (v1 : Int32) (n : Nat) (v3 : Int32) (v4 : Int32) (M : Mem) (o : Int32 × Mem), fX11_law_L99 N v0 v1 n v3 v4 M = some o → (∀ (r' : Int32) (M' : Mem), o = (r', M') → r' = r ∧ M' = Mf) → X p l e ({ frames := 7, cells := 0, slots := 0, locals := 100 * 7 }) s m args below meth c (MQ below (Qm b D cy (some (.int r)) Mf) args s 0 0 (fun q => b ≤ q)) 5 b D cy 0 0 M 99 [(0, .ref (b + v0)), (1, .int v1), (3, .int v3), (4, .int v4)] [] := by
        intro v0 v1 n
        induction n with
        | zero => intro v3 v4 M o h; exact absurd h (by rw [fX11_law_L99]; exact fun z => by cases z)
        | succ n ih =>
          intro v3 v4 M o h hR
          rw [fX11_law_L99] at h
          refine x_iload F dX11_law_99 3 rfl ?_
          refine x_aload_n F dX11_law_101 rfl 0 rfl ?_
          refine x_iload_n F dX11_law_102 rfl 1 rfl ?_
          obtain ⟨k103, h⟩ := gdS h
          obtain ⟨⟨x103, M103⟩, c103, h⟩ := bdS h
          dsimp only at h
          refine x_callV F (As := [.int v1]) (rest := [.int v4]) (res := (some (.int x103))) (ci := 11) (q := (RX11, TX11, 45)) rfl (by decide) k103 (k_X11_longOf l b D cy N v0 v1 M _ _ c103) wl_1005 wl_1006 wl_1007 wl_854 wl_1003 hd_X11_longOf ⟨Nat.le_of_ble_eq_true rfl, Nat.le_of_ble_eq_true rfl⟩ ⟨Nat.le_refl _, Nat.le_refl _⟩ (Nat.le_of_ble_eq_true rfl) rfl dX11_law_103 ?_
          refine x_icmp_ge F (tgt := 128) dX11_law_106 (by decide) (fun c106 => ?_) (fun c106 => ?_)
          · rw [if_pos c106] at h
            refine x_iload_n F dX11_law_128 rfl 2 rfl ?_
            obtain rfl := Option.some.inj h
            obtain ⟨rfl, rfl⟩ := hR _ _ rfl
            exact x_iret F hr hl dX11_law_129
          · rw [if_neg c106] at h
            refine x_iload_n F dX11_law_109 rfl 2 rfl ?_
            refine x_aload_n F dX11_law_110 rfl 0 rfl ?_
            refine x_iload_n F dX11_law_111 rfl 1 rfl ?_
            refine x_iload F dX11_law_112 3 rfl ?_
            obtain ⟨k114, h⟩ := gdS h
            obtain ⟨⟨x114, M114⟩, c114, h⟩ := bdS h
            dsimp only at h
            refine x_callV F (As := [.int v1, .int v4]) (rest := [.int v3]) (res := (some (.int x114))) (ci := 11) (q := (RX11, TX11, 45)) rfl (by decide) k114 (k_X11_signOf l b D cy N v0 v1 v4 M103 _ _ c114) wl_1014 wl_1015 wl_1016 wl_854 wl_1004 hd_X11_signOf ⟨Nat.le_of_ble_eq_true rfl, Nat.le_of_ble_eq_true rfl⟩ ⟨Nat.le_refl _, Nat.le_refl _⟩ (Nat.le_of_ble_eq_true rfl) rfl dX11_law_114 ?_
            obtain ⟨⟨x117, M117⟩, c117, h⟩ := bdS h
            dsimp only at h
            refine x_callS F (As := [.int x114]) (rest := [.int v3]) (res := (some (.int x117))) (k_X11_strokesOf l b D cy N x114 M114 _ _ c117) wl_1017 wl_1018 wl_854 wl_1008 (hd_X11_strokesOf).2 ⟨Nat.le_of_ble_eq_true rfl, Nat.le_of_ble_eq_true rfl⟩ ⟨Nat.le_refl _, Nat.le_refl _⟩ (Nat.le_of_ble_eq_true rfl) rfl dX11_law_117 ?_
            refine x_iadd F dX11_law_120 ?_
            refine x_istore_n F (lv' := [(3, .int (v3 + x117)), (0, .ref (b + v0)), (1, .int v1), (4, .int v4)]) dX11_law_121 rfl (by decide) rfl ?_
            refine x_iinc F (v := v4 + 1) (lv' := [(4, .int (v4 + 1)), (3, .int (v3 + x117)), (0, .ref (b + v0)), (1, .int v1)]) dX11_law_122 3 rfl rfl (by decide) rfl ?_
            refine x_goto F (tgt := 99) dX11_law_125 (by decide) ?_
            refine x_sub [2, 3, 1, 0] rfl ?_
            exact ih (v3 + x117) (v4 + 1) M117 o h hR
      obtain ⟨o99, h99, h⟩ := bdS h
      refine x_sub [2, 3, 1, 0] rfl ?_
      refine L99 v0 v1 N 0 0 M7 o99 h99 (fun r' M' e => ?_)
      · subst e
        try dsimp only at h
        obtain ⟨rfl, rfl⟩ := retS h; exact ⟨rfl, rfl⟩
    rw [if_neg c19_4] at h
    refine x_tableOut F (tgt := 130) dX11_law_19 (by have q0 := sw_ne (t := 0) c19_0 (by decide); have q1 := sw_ne (t := 1) c19_1 (by decide); have q2 := sw_ne (t := 2) c19_2 (by decide); have q3 := sw_ne (t := 3) c19_3 (by decide); have q4 := sw_ne (t := 4) c19_4 (by decide); omega) (by decide) ?_
    refine x_aload_n F dX11_law_130 rfl 0 rfl ?_
    obtain ⟨k131, h⟩ := gdS h
    obtain ⟨⟨x131, M131⟩, c131, h⟩ := bdS h
    dsimp only at h
    refine x_callV F (As := []) (rest := []) (res := (some (.int x131))) (ci := 11) (q := (RX11, TX11, 45)) rfl (by decide) k131 (k_X11_refuse l b D cy N v0 M7 _ _ c131) wl_1042 wl_1043 wl_1044 wl_854 wl_846 hd_X11_refuse ⟨Nat.le_of_ble_eq_true rfl, Nat.le_of_ble_eq_true rfl⟩ ⟨Nat.le_refl _, Nat.le_refl _⟩ (Nat.le_of_ble_eq_true rfl) rfl dX11_law_131 ?_
    obtain ⟨rfl, rfl⟩ := retS h
    exact x_iret F hr hl dX11_law_134
  · rw [if_pos c10] at h
    refine x_aload_n F dX11_law_13 rfl 0 rfl ?_
    obtain ⟨k14, h⟩ := gdS h
    obtain ⟨⟨x14, M14⟩, c14, h⟩ := bdS h
    dsimp only at h
    refine x_callV F (As := []) (rest := []) (res := (some (.int x14))) (ci := 11) (q := (RX11, TX11, 45)) rfl (by decide) k14 (k_X11_refuse l b D cy N v0 M7 _ _ c14) wl_1042 wl_1043 wl_1044 wl_854 wl_846 hd_X11_refuse ⟨Nat.le_of_ble_eq_true rfl, Nat.le_of_ble_eq_true rfl⟩ ⟨Nat.le_refl _, Nat.le_refl _⟩ (Nat.le_of_ble_eq_true rfl) rfl dX11_law_14 ?_
    obtain ⟨rfl, rfl⟩ := retS h
    exact x_iret F hr hl dX11_law_17
theorem dX11_lawAt_0 : decode cX11_lawAt 0 = .ok (.aload_n 0, 1) := by decide +kernel
theorem dX11_lawAt_1 : decode cX11_lawAt 1 = .ok (.iconst 0, 1) := by decide +kernel
theorem dX11_lawAt_2 : decode cX11_lawAt 2 = .ok (.putfield 1, 3) := by decide +kernel
theorem dX11_lawAt_5 : decode cX11_lawAt 5 = .ok (.aload_n 0, 1) := by decide +kernel
theorem dX11_lawAt_6 : decode cX11_lawAt 6 = .ok (.iload_n 1, 1) := by decide +kernel
theorem dX11_lawAt_7 : decode cX11_lawAt 7 = .ok (.invokevirtual 258, 3) := by decide +kernel
theorem dX11_lawAt_10 : decode cX11_lawAt 10 = .ok (.ifCond .eq 27, 3) := by decide +kernel
theorem dX11_lawAt_13 : decode cX11_lawAt 13 = .ok (.iload_n 2, 1) := by decide +kernel
theorem dX11_lawAt_14 : decode cX11_lawAt 14 = .ok (.iconst 0, 1) := by decide +kernel
theorem dX11_lawAt_15 : decode cX11_lawAt 15 = .ok (.aload_n 0, 1) := by decide +kernel
theorem dX11_lawAt_16 : decode cX11_lawAt 16 = .ok (.iload_n 1, 1) := by decide +kernel
theorem dX11_lawAt_17 : decode cX11_lawAt 17 = .ok (.invokevirtual 216, 3) := by decide +kernel
theorem dX11_lawAt_20 : decode cX11_lawAt 20 = .ok (.iconst 1, 1) := by decide +kernel
theorem dX11_lawAt_21 : decode cX11_lawAt 21 = .ok (.isub, 1) := by decide +kernel
theorem dX11_lawAt_22 : decode cX11_lawAt 22 = .ok (.invokestatic 75, 3) := by decide +kernel
theorem dX11_lawAt_25 : decode cX11_lawAt 25 = .ok (.ifCond .eq 12, 3) := by decide +kernel
theorem dX11_lawAt_28 : decode cX11_lawAt 28 = .ok (.aload_n 0, 1) := by decide +kernel
theorem dX11_lawAt_29 : decode cX11_lawAt 29 = .ok (.iload_n 1, 1) := by decide +kernel
theorem dX11_lawAt_30 : decode cX11_lawAt 30 = .ok (.iload_n 2, 1) := by decide +kernel
theorem dX11_lawAt_31 : decode cX11_lawAt 31 = .ok (.invokevirtual 223, 3) := by decide +kernel
theorem dX11_lawAt_34 : decode cX11_lawAt 34 = .ok (.goto 4, 3) := by decide +kernel
theorem dX11_lawAt_37 : decode cX11_lawAt 37 = .ok (.iconst (-1), 1) := by decide +kernel
theorem dX11_lawAt_38 : decode cX11_lawAt 38 = .ok (.ireturn, 1) := by decide +kernel
def fX11_lawAt (N : Nat) (v0 : Nat) (v1 : Int32) (v2 : Int32) (M : Mem) : Option (Int32 × Mem) := ((pI M 11 v0 0 0).bind fun M2 => (if mK M2 v0 = 12 then ((fX11_isLaw N v0 v1 M2).bind fun (x7, M7) => (if x7 = 0 then some ((-1), M7) else (if mK M7 v0 = 12 then ((fX11_longOf N v0 v1 M7).bind fun (x17, M17) => ((fX11_isIn N v2 0 (x17 - 1) M17).bind fun (x22, M22) => (if x22 = 0 then some ((-1), M22) else (if mK M22 v0 = 12 then ((fX11_signOf N v0 v1 v2 M22).bind fun (x31, M31) => some (x31, M31)) else none)))) else none))) else none))
set_option maxHeartbeats 4000000 in
set_option maxRecDepth 100000 in
theorem k_X11_lawAt (l : Launch) (b : Nat) (D : va_G) (cy : Nat → ClassId) (N : Nat) (v0 : Nat) (v1 : Int32) (v2 : Int32) (M : Mem) (r : Int32) (Mf : Mem) (h : fX11_lawAt N v0 v1 v2 M = some (r, Mf)) : Ct l yX11_lawAt cX11_lawAt 3 (some .int) 3 0 0 b D cy [.ref (b + v0), .int v1, .int v2] M (some (.int r)) Mf := by
  refine Ct_of (own := RX11) (by decide) rfl (Nat.le_of_ble_eq_true rfl) ?_
  intro p e s m args below meth c F hr hl hmn
  unfold fX11_lawAt at h
  show X p l e ({ frames := 3, cells := 0, slots := 0, locals := 100 * 3 }) s m args below meth c (MQ below (Qm b D cy (some (.int r)) Mf) args s 0 0 (fun q => b ≤ q)) 3 b D cy 0 0 M 0 [(0, .ref (b + v0)), (1, .int v1), (2, .int v2)] []
  refine x_aload_n F dX11_lawAt_0 rfl 0 rfl ?_
  refine x_iconst F (v := 0) dX11_lawAt_1 (by decide) ?_
  obtain ⟨M2, c2, h⟩ := bdS h
  refine x_putI F (ci := 11) (C := RX11) (T := TX11) (N := 45) rfl ⟨by decide, rfl⟩ inU11 tyX11_ok nmX11 0 (by decide) rfl rfl wl_845 c2 dX11_lawAt_2 ?_
  refine x_aload_n F dX11_lawAt_5 rfl 0 rfl ?_
  refine x_iload_n F dX11_lawAt_6 rfl 1 rfl ?_
  obtain ⟨k7, h⟩ := gdS h
  obtain ⟨⟨x7, M7⟩, c7, h⟩ := bdS h
  dsimp only at h
  refine x_callV F (As := [.int v1]) (rest := []) (res := (some (.int x7))) (ci := 11) (q := (RX11, TX11, 45)) rfl (by decide) k7 (k_X11_isLaw l b D cy N v0 v1 M2 _ _ c7) wl_1054 wl_1055 wl_1056 wl_854 wl_1000 hd_X11_isLaw ⟨Nat.le_of_ble_eq_true rfl, Nat.le_of_ble_eq_true rfl⟩ ⟨Nat.le_refl _, Nat.le_refl _⟩ (Nat.le_of_ble_eq_true rfl) rfl dX11_lawAt_7 ?_
  refine x_if_eq F (tgt := 37) dX11_lawAt_10 (by decide) (fun c10 => ?_) (fun c10 => ?_)
  · rw [if_pos c10] at h
    refine x_iconst F (v := (-1)) dX11_lawAt_37 (by decide) ?_
    obtain ⟨rfl, rfl⟩ := retS h
    exact x_iret F hr hl dX11_lawAt_38
  · rw [if_neg c10] at h
    refine x_iload_n F dX11_lawAt_13 rfl 2 rfl ?_
    refine x_iconst F (v := 0) dX11_lawAt_14 (by decide) ?_
    refine x_aload_n F dX11_lawAt_15 rfl 0 rfl ?_
    refine x_iload_n F dX11_lawAt_16 rfl 1 rfl ?_
    obtain ⟨k17, h⟩ := gdS h
    obtain ⟨⟨x17, M17⟩, c17, h⟩ := bdS h
    dsimp only at h
    refine x_callV F (As := [.int v1]) (rest := [.int 0, .int v2]) (res := (some (.int x17))) (ci := 11) (q := (RX11, TX11, 45)) rfl (by decide) k17 (k_X11_longOf l b D cy N v0 v1 M7 _ _ c17) wl_1005 wl_1006 wl_1007 wl_854 wl_1003 hd_X11_longOf ⟨Nat.le_of_ble_eq_true rfl, Nat.le_of_ble_eq_true rfl⟩ ⟨Nat.le_refl _, Nat.le_refl _⟩ (Nat.le_of_ble_eq_true rfl) rfl dX11_lawAt_17 ?_
    refine x_iconst F (v := 1) dX11_lawAt_20 (by decide) ?_
    refine x_isub F dX11_lawAt_21 ?_
    obtain ⟨⟨x22, M22⟩, c22, h⟩ := bdS h
    dsimp only at h
    refine x_callS F (As := [.int v2, .int 0, .int (x17 - 1)]) (rest := []) (res := (some (.int x22))) (k_X11_isIn l b D cy N v2 0 (x17 - 1) M17 _ _ c22) wl_898 wl_899 wl_854 wl_857 (hd_X11_isIn).2 ⟨Nat.le_of_ble_eq_true rfl, Nat.le_of_ble_eq_true rfl⟩ ⟨Nat.le_refl _, Nat.le_refl _⟩ (Nat.le_of_ble_eq_true rfl) rfl dX11_lawAt_22 ?_
    refine x_if_eq F (tgt := 37) dX11_lawAt_25 (by decide) (fun c25 => ?_) (fun c25 => ?_)
    · rw [if_pos c25] at h
      refine x_iconst F (v := (-1)) dX11_lawAt_37 (by decide) ?_
      obtain ⟨rfl, rfl⟩ := retS h
      exact x_iret F hr hl dX11_lawAt_38
    · rw [if_neg c25] at h
      refine x_aload_n F dX11_lawAt_28 rfl 0 rfl ?_
      refine x_iload_n F dX11_lawAt_29 rfl 1 rfl ?_
      refine x_iload_n F dX11_lawAt_30 rfl 2 rfl ?_
      obtain ⟨k31, h⟩ := gdS h
      obtain ⟨⟨x31, M31⟩, c31, h⟩ := bdS h
      dsimp only at h
      refine x_callV F (As := [.int v1, .int v2]) (rest := []) (res := (some (.int x31))) (ci := 11) (q := (RX11, TX11, 45)) rfl (by decide) k31 (k_X11_signOf l b D cy N v0 v1 v2 M22 _ _ c31) wl_1014 wl_1015 wl_1016 wl_854 wl_1004 hd_X11_signOf ⟨Nat.le_of_ble_eq_true rfl, Nat.le_of_ble_eq_true rfl⟩ ⟨Nat.le_refl _, Nat.le_refl _⟩ (Nat.le_of_ble_eq_true rfl) rfl dX11_lawAt_31 ?_
      refine x_goto F (tgt := 38) dX11_lawAt_34 (by decide) ?_
      obtain ⟨rfl, rfl⟩ := retS h
      exact x_iret F hr hl dX11_lawAt_38
theorem hd_X11_isWriter : (yX11_isWriter).cls = RX11 ∧ (yX11_isWriter).cls ≠ "java/lang/invoke/MethodHandle" ∧ (yX11_isWriter).cls ≠ "java/lang/invoke/VarHandle" ∧ (parseMethodDescriptor (yX11_isWriter).desc).map (fun d => d.parameters.length) = some 1 := by decide +kernel
theorem dX11_writer_0 : decode cX11_writer 0 = .ok (.aload_n 0, 1) := by decide +kernel
theorem dX11_writer_1 : decode cX11_writer 1 = .ok (.iconst 0, 1) := by decide +kernel
theorem dX11_writer_2 : decode cX11_writer 2 = .ok (.putfield 1, 3) := by decide +kernel
theorem dX11_writer_5 : decode cX11_writer 5 = .ok (.aload_n 0, 1) := by decide +kernel
theorem dX11_writer_6 : decode cX11_writer 6 = .ok (.iload_n 1, 1) := by decide +kernel
theorem dX11_writer_7 : decode cX11_writer 7 = .ok (.invokevirtual 267, 3) := by decide +kernel
theorem dX11_writer_10 : decode cX11_writer 10 = .ok (.ifCond .eq 33, 3) := by decide +kernel
theorem dX11_writer_13 : decode cX11_writer 13 = .ok (.iload_n 2, 1) := by decide +kernel
theorem dX11_writer_14 : decode cX11_writer 14 = .ok (.iconst 0, 1) := by decide +kernel
theorem dX11_writer_15 : decode cX11_writer 15 = .ok (.iconst 1, 1) := by decide +kernel
theorem dX11_writer_16 : decode cX11_writer 16 = .ok (.invokestatic 75, 3) := by decide +kernel
theorem dX11_writer_19 : decode cX11_writer 19 = .ok (.ifCond .eq 24, 3) := by decide +kernel
theorem dX11_writer_22 : decode cX11_writer 22 = .ok (.aload_n 0, 1) := by decide +kernel
theorem dX11_writer_23 : decode cX11_writer 23 = .ok (.getfield 98, 3) := by decide +kernel
theorem dX11_writer_26 : decode cX11_writer 26 = .ok (.iload_n 2, 1) := by decide +kernel
theorem dX11_writer_27 : decode cX11_writer 27 = .ok (.ifCond .ne 8, 3) := by decide +kernel
theorem dX11_writer_30 : decode cX11_writer 30 = .ok (.bipush 25, 2) := by decide +kernel
theorem dX11_writer_32 : decode cX11_writer 32 = .ok (.goto 5, 3) := by decide +kernel
theorem dX11_writer_35 : decode cX11_writer 35 = .ok (.bipush 45, 2) := by decide +kernel
theorem dX11_writer_37 : decode cX11_writer 37 = .ok (.iload_n 1, 1) := by decide +kernel
theorem dX11_writer_38 : decode cX11_writer 38 = .ok (.iadd, 1) := by decide +kernel
theorem dX11_writer_39 : decode cX11_writer 39 = .ok (.iaload, 1) := by decide +kernel
theorem dX11_writer_40 : decode cX11_writer 40 = .ok (.goto 4, 3) := by decide +kernel
theorem dX11_writer_43 : decode cX11_writer 43 = .ok (.iconst (-1), 1) := by decide +kernel
theorem dX11_writer_44 : decode cX11_writer 44 = .ok (.ireturn, 1) := by decide +kernel
def fX11_writer (N : Nat) (v0 : Nat) (v1 : Int32) (v2 : Int32) (M : Mem) : Option (Int32 × Mem) := ((pI M 11 v0 0 0).bind fun M2 => (if mK M2 v0 = 12 then ((fX11_isWriter N v0 v1 M2).bind fun (x7, M7) => (if x7 = 0 then some ((-1), M7) else ((fX11_isIn N v2 0 1 M7).bind fun (x16, M16) => (if x16 = 0 then some ((-1), M16) else ((fR M16 11 v0 14).bind fun x23 => (if v2 = 0 then ((aI M16 x23 (25 + v1)).bind fun x39 => some (x39, M16)) else ((aI M16 x23 (45 + v1)).bind fun x39 => some (x39, M16)))))))) else none))
set_option maxHeartbeats 4000000 in
set_option maxRecDepth 100000 in
theorem k_X11_writer (l : Launch) (b : Nat) (D : va_G) (cy : Nat → ClassId) (N : Nat) (v0 : Nat) (v1 : Int32) (v2 : Int32) (M : Mem) (r : Int32) (Mf : Mem) (h : fX11_writer N v0 v1 v2 M = some (r, Mf)) : Ct l yX11_writer cX11_writer 3 (some .int) 3 0 0 b D cy [.ref (b + v0), .int v1, .int v2] M (some (.int r)) Mf := by
  refine Ct_of (own := RX11) (by decide) rfl (Nat.le_of_ble_eq_true rfl) ?_
  intro p e s m args below meth c F hr hl hmn
  unfold fX11_writer at h
  show X p l e ({ frames := 3, cells := 0, slots := 0, locals := 100 * 3 }) s m args below meth c (MQ below (Qm b D cy (some (.int r)) Mf) args s 0 0 (fun q => b ≤ q)) 3 b D cy 0 0 M 0 [(0, .ref (b + v0)), (1, .int v1), (2, .int v2)] []
  refine x_aload_n F dX11_writer_0 rfl 0 rfl ?_
  refine x_iconst F (v := 0) dX11_writer_1 (by decide) ?_
  obtain ⟨M2, c2, h⟩ := bdS h
  refine x_putI F (ci := 11) (C := RX11) (T := TX11) (N := 45) rfl ⟨by decide, rfl⟩ inU11 tyX11_ok nmX11 0 (by decide) rfl rfl wl_845 c2 dX11_writer_2 ?_
  refine x_aload_n F dX11_writer_5 rfl 0 rfl ?_
  refine x_iload_n F dX11_writer_6 rfl 1 rfl ?_
  obtain ⟨k7, h⟩ := gdS h
  obtain ⟨⟨x7, M7⟩, c7, h⟩ := bdS h
  dsimp only at h
  refine x_callV F (As := [.int v1]) (rest := []) (res := (some (.int x7))) (ci := 11) (q := (RX11, TX11, 45)) rfl (by decide) k7 (k_X11_isWriter l b D cy N v0 v1 M2 _ _ c7) wl_1065 wl_1066 wl_1067 wl_854 wl_999 hd_X11_isWriter ⟨Nat.le_of_ble_eq_true rfl, Nat.le_of_ble_eq_true rfl⟩ ⟨Nat.le_refl _, Nat.le_refl _⟩ (Nat.le_of_ble_eq_true rfl) rfl dX11_writer_7 ?_
  refine x_if_eq F (tgt := 43) dX11_writer_10 (by decide) (fun c10 => ?_) (fun c10 => ?_)
  · rw [if_pos c10] at h
    refine x_iconst F (v := (-1)) dX11_writer_43 (by decide) ?_
    obtain ⟨rfl, rfl⟩ := retS h
    exact x_iret F hr hl dX11_writer_44
  · rw [if_neg c10] at h
    refine x_iload_n F dX11_writer_13 rfl 2 rfl ?_
    refine x_iconst F (v := 0) dX11_writer_14 (by decide) ?_
    refine x_iconst F (v := 1) dX11_writer_15 (by decide) ?_
    obtain ⟨⟨x16, M16⟩, c16, h⟩ := bdS h
    dsimp only at h
    refine x_callS F (As := [.int v2, .int 0, .int 1]) (rest := []) (res := (some (.int x16))) (k_X11_isIn l b D cy N v2 0 1 M7 _ _ c16) wl_898 wl_899 wl_854 wl_857 (hd_X11_isIn).2 ⟨Nat.le_of_ble_eq_true rfl, Nat.le_of_ble_eq_true rfl⟩ ⟨Nat.le_refl _, Nat.le_refl _⟩ (Nat.le_of_ble_eq_true rfl) rfl dX11_writer_16 ?_
    refine x_if_eq F (tgt := 43) dX11_writer_19 (by decide) (fun c19 => ?_) (fun c19 => ?_)
    · rw [if_pos c19] at h
      refine x_iconst F (v := (-1)) dX11_writer_43 (by decide) ?_
      obtain ⟨rfl, rfl⟩ := retS h
      exact x_iret F hr hl dX11_writer_44
    · rw [if_neg c19] at h
      refine x_aload_n F dX11_writer_22 rfl 0 rfl ?_
      obtain ⟨x23, c23, h⟩ := bdS h
      refine x_getR F (ci := 11) (C := RX11) (T := TX11) (N := 45) rfl ⟨by decide, rfl⟩ inU11 14 (by decide) (fun _ _ _ => rfl) wl_913 c23 dX11_writer_23 ?_
      refine x_iload_n F dX11_writer_26 rfl 2 rfl ?_
      refine x_if_ne F (tgt := 35) dX11_writer_27 (by decide) (fun c27 => ?_) (fun c27 => ?_)
      · rw [if_neg c27] at h
        refine x_bipush F (v := 45) dX11_writer_35 (by decide) ?_
        refine x_iload_n F dX11_writer_37 rfl 1 rfl ?_
        refine x_iadd F dX11_writer_38 ?_
        obtain ⟨x39, c39, h⟩ := bdS h
        refine x_aI F c39 dX11_writer_39 ?_
        refine x_goto F (tgt := 44) dX11_writer_40 (by decide) ?_
        obtain ⟨rfl, rfl⟩ := retS h
        exact x_iret F hr hl dX11_writer_44
      · rw [if_pos c27] at h
        refine x_bipush F (v := 25) dX11_writer_30 (by decide) ?_
        refine x_goto F (tgt := 37) dX11_writer_32 (by decide) ?_
        refine x_iload_n F dX11_writer_37 rfl 1 rfl ?_
        refine x_iadd F dX11_writer_38 ?_
        obtain ⟨x39, c39, h⟩ := bdS h
        refine x_aI F c39 dX11_writer_39 ?_
        refine x_goto F (tgt := 44) dX11_writer_40 (by decide) ?_
        obtain ⟨rfl, rfl⟩ := retS h
        exact x_iret F hr hl dX11_writer_44
theorem dX11_now_0 : decode cX11_now 0 = .ok (.aload_n 0, 1) := by decide +kernel
theorem dX11_now_1 : decode cX11_now 1 = .ok (.iconst 0, 1) := by decide +kernel
theorem dX11_now_2 : decode cX11_now 2 = .ok (.putfield 1, 3) := by decide +kernel
theorem dX11_now_5 : decode cX11_now 5 = .ok (.iconst 0, 1) := by decide +kernel
theorem dX11_now_6 : decode cX11_now 6 = .ok (.istore_n 2, 1) := by decide +kernel
theorem dX11_now_7 : decode cX11_now 7 = .ok (.iload_n 1, 1) := by decide +kernel
theorem dX11_now_8 : decode cX11_now 8 = .ok (.tableswitch 145 0 6 #[44, 52, 58, 86, 121, 129, 137], 44) := by decide +kernel
theorem dX11_now_52 : decode cX11_now 52 = .ok (.aload_n 0, 1) := by decide +kernel
theorem dX11_now_53 : decode cX11_now 53 = .ok (.getfield 98, 3) := by decide +kernel
theorem dX11_now_56 : decode cX11_now 56 = .ok (.bipush 35, 2) := by decide +kernel
theorem dX11_now_58 : decode cX11_now 58 = .ok (.iaload, 1) := by decide +kernel
theorem dX11_now_59 : decode cX11_now 59 = .ok (.ireturn, 1) := by decide +kernel
theorem dX11_now_60 : decode cX11_now 60 = .ok (.aload_n 0, 1) := by decide +kernel
theorem dX11_now_61 : decode cX11_now 61 = .ok (.iconst 0, 1) := by decide +kernel
theorem dX11_now_62 : decode cX11_now 62 = .ok (.invokevirtual 243, 3) := by decide +kernel
theorem dX11_now_65 : decode cX11_now 65 = .ok (.ireturn, 1) := by decide +kernel
theorem dX11_now_66 : decode cX11_now 66 = .ok (.iconst 0, 1) := by decide +kernel
theorem dX11_now_67 : decode cX11_now 67 = .ok (.istore_n 3, 1) := by decide +kernel
theorem dX11_now_68 : decode cX11_now 68 = .ok (.iload_n 3, 1) := by decide +kernel
theorem dX11_now_69 : decode cX11_now 69 = .ok (.aload_n 0, 1) := by decide +kernel
theorem dX11_now_70 : decode cX11_now 70 = .ok (.getfield 98, 3) := by decide +kernel
theorem dX11_now_73 : decode cX11_now 73 = .ok (.iconst 0, 1) := by decide +kernel
theorem dX11_now_74 : decode cX11_now 74 = .ok (.iaload, 1) := by decide +kernel
theorem dX11_now_75 : decode cX11_now 75 = .ok (.if_icmp .ge 17, 3) := by decide +kernel
theorem dX11_now_78 : decode cX11_now 78 = .ok (.iload_n 2, 1) := by decide +kernel
theorem dX11_now_79 : decode cX11_now 79 = .ok (.aload_n 0, 1) := by decide +kernel
theorem dX11_now_80 : decode cX11_now 80 = .ok (.iload_n 3, 1) := by decide +kernel
theorem dX11_now_81 : decode cX11_now 81 = .ok (.invokevirtual 252, 3) := by decide +kernel
theorem dX11_now_84 : decode cX11_now 84 = .ok (.iadd, 1) := by decide +kernel
theorem dX11_now_85 : decode cX11_now 85 = .ok (.istore_n 2, 1) := by decide +kernel
theorem dX11_now_86 : decode cX11_now 86 = .ok (.iinc 3 1, 3) := by decide +kernel
theorem dX11_now_89 : decode cX11_now 89 = .ok (.goto (-21), 3) := by decide +kernel
theorem dX11_now_92 : decode cX11_now 92 = .ok (.iload_n 2, 1) := by decide +kernel
theorem dX11_now_93 : decode cX11_now 93 = .ok (.ireturn, 1) := by decide +kernel
theorem dX11_now_94 : decode cX11_now 94 = .ok (.iconst 0, 1) := by decide +kernel
theorem dX11_now_95 : decode cX11_now 95 = .ok (.istore_n 3, 1) := by decide +kernel
theorem dX11_now_96 : decode cX11_now 96 = .ok (.iload_n 3, 1) := by decide +kernel
theorem dX11_now_97 : decode cX11_now 97 = .ok (.aload_n 0, 1) := by decide +kernel
theorem dX11_now_98 : decode cX11_now 98 = .ok (.getfield 98, 3) := by decide +kernel
theorem dX11_now_101 : decode cX11_now 101 = .ok (.iconst 2, 1) := by decide +kernel
theorem dX11_now_102 : decode cX11_now 102 = .ok (.iaload, 1) := by decide +kernel
theorem dX11_now_103 : decode cX11_now 103 = .ok (.if_icmp .ge 24, 3) := by decide +kernel
theorem dX11_now_106 : decode cX11_now 106 = .ok (.aload_n 0, 1) := by decide +kernel
theorem dX11_now_107 : decode cX11_now 107 = .ok (.iload_n 3, 1) := by decide +kernel
theorem dX11_now_108 : decode cX11_now 108 = .ok (.invokevirtual 264, 3) := by decide +kernel
theorem dX11_now_111 : decode cX11_now 111 = .ok (.iconst (-1), 1) := by decide +kernel
theorem dX11_now_112 : decode cX11_now 112 = .ok (.if_icmp .eq 9, 3) := by decide +kernel
theorem dX11_now_115 : decode cX11_now 115 = .ok (.iload_n 2, 1) := by decide +kernel
theorem dX11_now_116 : decode cX11_now 116 = .ok (.iconst 1, 1) := by decide +kernel
theorem dX11_now_117 : decode cX11_now 117 = .ok (.iload_n 3, 1) := by decide +kernel
theorem dX11_now_118 : decode cX11_now 118 = .ok (.ishl, 1) := by decide +kernel
theorem dX11_now_119 : decode cX11_now 119 = .ok (.ior, 1) := by decide +kernel
theorem dX11_now_120 : decode cX11_now 120 = .ok (.istore_n 2, 1) := by decide +kernel
theorem dX11_now_121 : decode cX11_now 121 = .ok (.iinc 3 1, 3) := by decide +kernel
theorem dX11_now_124 : decode cX11_now 124 = .ok (.goto (-28), 3) := by decide +kernel
theorem dX11_now_127 : decode cX11_now 127 = .ok (.iload_n 2, 1) := by decide +kernel
theorem dX11_now_128 : decode cX11_now 128 = .ok (.ireturn, 1) := by decide +kernel
theorem dX11_now_129 : decode cX11_now 129 = .ok (.aload_n 0, 1) := by decide +kernel
theorem dX11_now_130 : decode cX11_now 130 = .ok (.getfield 98, 3) := by decide +kernel
theorem dX11_now_133 : decode cX11_now 133 = .ok (.bipush 38, 2) := by decide +kernel
theorem dX11_now_135 : decode cX11_now 135 = .ok (.iaload, 1) := by decide +kernel
theorem dX11_now_136 : decode cX11_now 136 = .ok (.ireturn, 1) := by decide +kernel
theorem dX11_now_137 : decode cX11_now 137 = .ok (.aload_n 0, 1) := by decide +kernel
theorem dX11_now_138 : decode cX11_now 138 = .ok (.getfield 98, 3) := by decide +kernel
theorem dX11_now_141 : decode cX11_now 141 = .ok (.bipush 36, 2) := by decide +kernel
theorem dX11_now_143 : decode cX11_now 143 = .ok (.iaload, 1) := by decide +kernel
theorem dX11_now_144 : decode cX11_now 144 = .ok (.ireturn, 1) := by decide +kernel
theorem dX11_now_145 : decode cX11_now 145 = .ok (.aload_n 0, 1) := by decide +kernel
theorem dX11_now_146 : decode cX11_now 146 = .ok (.getfield 98, 3) := by decide +kernel
theorem dX11_now_149 : decode cX11_now 149 = .ok (.bipush 37, 2) := by decide +kernel
theorem dX11_now_151 : decode cX11_now 151 = .ok (.iaload, 1) := by decide +kernel
theorem dX11_now_152 : decode cX11_now 152 = .ok (.ireturn, 1) := by decide +kernel
theorem dX11_now_153 : decode cX11_now 153 = .ok (.iconst (-1), 1) := by decide +kernel
theorem dX11_now_154 : decode cX11_now 154 = .ok (.ireturn, 1) := by decide +kernel
def fX11_now_L68 (N : Nat) (v0 : Nat) : Nat → Int32 → Int32 → Mem → Option (Int32 × Mem)
  | 0, _, _, _ => none
  | n + 1, v2, v3, M => ((fR M 11 v0 14).bind fun x70 => ((aI M x70 0).bind fun x74 => (if x74 ≤ v3 then some (v2, M) else (if mK M v0 = 12 then ((fX11_signsOf N v0 v3 M).bind fun (x81, M81) => fX11_now_L68 N v0 n (v2 + x81) (v3 + 1) M81) else none))))
def fX11_now_L96 (N : Nat) (v0 : Nat) : Nat → Int32 → Int32 → Mem → Option (Int32 × Mem)
  | 0, _, _, _ => none
  | n + 1, v2, v3, M => ((fR M 11 v0 14).bind fun x98 => ((aI M x98 2).bind fun x102 => (if x102 ≤ v3 then some (v2, M) else (if mK M v0 = 12 then ((fX11_readIn N v0 v3 M).bind fun (x108, M108) => (if x108 = ((-1)) then fX11_now_L96 N v0 n v2 (v3 + 1) M108 else fX11_now_L96 N v0 n (v2 ||| (1 <<< (v3 &&& 31))) (v3 + 1) M108)) else none))))
def fX11_now (N : Nat) (v0 : Nat) (v1 : Int32) (M : Mem) : Option (Int32 × Mem) := ((pI M 11 v0 0 0).bind fun M2 => (if v1 = 0 then ((fR M2 11 v0 14).bind fun x53 => ((aI M2 x53 35).bind fun x58 => some (x58, M2))) else (if v1 = 1 then (if mK M2 v0 = 12 then ((fX11_tideAt N v0 0 M2).bind fun (x62, M62) => some (x62, M62)) else none) else (if v1 = 2 then ((fX11_now_L68 N v0 N 0 0 M2).bind fun o68 => some o68) else (if v1 = 3 then ((fX11_now_L96 N v0 N 0 0 M2).bind fun o96 => some o96) else (if v1 = 4 then ((fR M2 11 v0 14).bind fun x130 => ((aI M2 x130 38).bind fun x135 => some (x135, M2))) else (if v1 = 5 then ((fR M2 11 v0 14).bind fun x138 => ((aI M2 x138 36).bind fun x143 => some (x143, M2))) else (if v1 = 6 then ((fR M2 11 v0 14).bind fun x146 => ((aI M2 x146 37).bind fun x151 => some (x151, M2))) else some ((-1), M2)))))))))
set_option maxHeartbeats 4000000 in
set_option maxRecDepth 100000 in
theorem k_X11_now (l : Launch) (b : Nat) (D : va_G) (cy : Nat → ClassId) (N : Nat) (v0 : Nat) (v1 : Int32) (M : Mem) (r : Int32) (Mf : Mem) (h : fX11_now N v0 v1 M = some (r, Mf)) : Ct l yX11_now cX11_now 4 (some .int) 7 0 0 b D cy [.ref (b + v0), .int v1] M (some (.int r)) Mf := by
  refine Ct_of (own := RX11) (by decide) rfl (Nat.le_of_ble_eq_true rfl) ?_
  intro p e s m args below meth c F hr hl hmn
  unfold fX11_now at h
  show X p l e ({ frames := 7, cells := 0, slots := 0, locals := 100 * 7 }) s m args below meth c (MQ below (Qm b D cy (some (.int r)) Mf) args s 0 0 (fun q => b ≤ q)) 4 b D cy 0 0 M 0 [(0, .ref (b + v0)), (1, .int v1)] []
  refine x_aload_n F dX11_now_0 rfl 0 rfl ?_
  refine x_iconst F (v := 0) dX11_now_1 (by decide) ?_
  obtain ⟨M2, c2, h⟩ := bdS h
  refine x_putI F (ci := 11) (C := RX11) (T := TX11) (N := 45) rfl ⟨by decide, rfl⟩ inU11 tyX11_ok nmX11 0 (by decide) rfl rfl wl_845 c2 dX11_now_2 ?_
  refine x_iconst F (v := 0) dX11_now_5 (by decide) ?_
  refine x_istore_n F (lv' := [(2, .int 0), (0, .ref (b + v0)), (1, .int v1)]) dX11_now_6 rfl (by decide) rfl ?_
  refine x_iload_n F dX11_now_7 rfl 2 rfl ?_
  by_cases c8_0 : v1 = 0
  · rw [if_pos c8_0] at h
    refine x_tableIn F (off := 44) (tgt := 52) dX11_now_8 (by rw [c8_0]; decide) (by rw [c8_0]; decide) (by rw [c8_0]; decide) (by decide) ?_
    refine x_aload_n F dX11_now_52 rfl 1 rfl ?_
    obtain ⟨x53, c53, h⟩ := bdS h
    refine x_getR F (ci := 11) (C := RX11) (T := TX11) (N := 45) rfl ⟨by decide, rfl⟩ inU11 14 (by decide) (fun _ _ _ => rfl) wl_913 c53 dX11_now_53 ?_
    refine x_bipush F (v := 35) dX11_now_56 (by decide) ?_
    obtain ⟨x58, c58, h⟩ := bdS h
    refine x_aI F c58 dX11_now_58 ?_
    obtain ⟨rfl, rfl⟩ := retS h
    exact x_iret F hr hl dX11_now_59
  rw [if_neg c8_0] at h
  by_cases c8_1 : v1 = 1
  · rw [if_pos c8_1] at h
    refine x_tableIn F (off := 52) (tgt := 60) dX11_now_8 (by rw [c8_1]; decide) (by rw [c8_1]; decide) (by rw [c8_1]; decide) (by decide) ?_
    refine x_aload_n F dX11_now_60 rfl 1 rfl ?_
    refine x_iconst F (v := 0) dX11_now_61 (by decide) ?_
    obtain ⟨k62, h⟩ := gdS h
    obtain ⟨⟨x62, M62⟩, c62, h⟩ := bdS h
    dsimp only at h
    refine x_callV F (As := [.int 0]) (rest := []) (res := (some (.int x62))) (ci := 11) (q := (RX11, TX11, 45)) rfl (by decide) k62 (k_X11_tideAt l b D cy N v0 0 M2 _ _ c62) wl_1036 wl_1037 wl_1038 wl_854 wl_1034 hd_X11_tideAt ⟨Nat.le_of_ble_eq_true rfl, Nat.le_of_ble_eq_true rfl⟩ ⟨Nat.le_refl _, Nat.le_refl _⟩ (Nat.le_of_ble_eq_true rfl) rfl dX11_now_62 ?_
    obtain ⟨rfl, rfl⟩ := retS h
    exact x_iret F hr hl dX11_now_65
  rw [if_neg c8_1] at h
  by_cases c8_2 : v1 = 2
  · rw [if_pos c8_2] at h
    refine x_tableIn F (off := 58) (tgt := 66) dX11_now_8 (by rw [c8_2]; decide) (by rw [c8_2]; decide) (by rw [c8_2]; decide) (by decide) ?_
    refine x_iconst F (v := 0) dX11_now_66 (by decide) ?_
    refine x_istore_n F (lv' := [(3, .int 0), (2, .int 0), (0, .ref (b + v0)), (1, .int v1)]) dX11_now_67 rfl (by decide) rfl ?_
    have L68 : ∀ (v0 : Nat) (n : Nat) (v2 : Int32) (v3 : Int32) (M : Mem) (o : Int32 × Mem), fX11_now_L68 N v0 n v2 v3 M = some o → (∀ (r' : Int32) (M' : Mem), o = (r', M') → r' = r ∧ M' = Mf) → X p l e ({ frames := 7, cells := 0, slots := 0, locals := 100 * 7 }) s m args below meth c (MQ below (Qm b D cy (some (.int r)) Mf) args s 0 0 (fun q => b ≤ q)) 4 b D cy 0 0 M 68 [(0, .ref (b + v0)), (2, .int v2), (3, .int v3)] [] := by
      intro v0 n
      induction n with
      | zero => intro v2 v3 M o h; exact absurd h (by rw [fX11_now_L68]; exact fun z => by cases z)
      | succ n ih =>
        intro v2 v3 M o h hR
        rw [fX11_now_L68] at h
        refine x_iload_n F dX11_now_68 rfl 2 rfl ?_
        refine x_aload_n F dX11_now_69 rfl 0 rfl ?_
        obtain ⟨x70, c70, h⟩ := bdS h
        refine x_getR F (ci := 11) (C := RX11) (T := TX11) (N := 45) rfl ⟨by decide, rfl⟩ inU11 14 (by decide) (fun _ _ _ => rfl) wl_913 c70 dX11_now_70 ?_
        refine x_iconst F (v := 0) dX11_now_73 (by decide) ?_
        obtain ⟨x74, c74, h⟩ := bdS h
        refine x_aI F c74 dX11_now_74 ?_
        refine x_icmp_ge F (tgt := 92) dX11_now_75 (by decide) (fun c75 => ?_) (fun c75 => ?_)
        · rw [if_pos c75] at h
          refine x_iload_n F dX11_now_92 rfl 1 rfl ?_
          obtain rfl := Option.some.inj h
          obtain ⟨rfl, rfl⟩ := hR _ _ rfl
          exact x_iret F hr hl dX11_now_93
        · rw [if_neg c75] at h
          refine x_iload_n F dX11_now_78 rfl 1 rfl ?_
          refine x_aload_n F dX11_now_79 rfl 0 rfl ?_
          refine x_iload_n F dX11_now_80 rfl 2 rfl ?_
          obtain ⟨k81, h⟩ := gdS h
          obtain ⟨⟨x81, M81⟩, c81, h⟩ := bdS h
          dsimp only at h
          refine x_callV F (As := [.int v3]) (rest := [.int v2]) (res := (some (.int x81))) (ci := 11) (q := (RX11, TX11, 45)) rfl (by decide) k81 (k_X11_signsOf l b D cy N v0 v3 M _ _ c81) wl_1045 wl_1046 wl_1047 wl_854 wl_1033 hd_X11_signsOf ⟨Nat.le_of_ble_eq_true rfl, Nat.le_of_ble_eq_true rfl⟩ ⟨Nat.le_refl _, Nat.le_refl _⟩ (Nat.le_of_ble_eq_true rfl) rfl dX11_now_81 ?_
          refine x_iadd F dX11_now_84 ?_
          refine x_istore_n F (lv' := [(2, .int (v2 + x81)), (0, .ref (b + v0)), (3, .int v3)]) dX11_now_85 rfl (by decide) rfl ?_
          refine x_iinc F (v := v3 + 1) (lv' := [(3, .int (v3 + 1)), (2, .int (v2 + x81)), (0, .ref (b + v0))]) dX11_now_86 2 rfl rfl (by decide) rfl ?_
          refine x_goto F (tgt := 68) dX11_now_89 (by decide) ?_
          refine x_sub [2, 1, 0] rfl ?_
          exact ih (v2 + x81) (v3 + 1) M81 o h hR
    obtain ⟨o68, h68, h⟩ := bdS h
    refine x_sub [2, 1, 0] rfl ?_
    refine L68 v0 N 0 0 M2 o68 h68 (fun r' M' e => ?_)
    · subst e
      try dsimp only at h
      obtain ⟨rfl, rfl⟩ := retS h; exact ⟨rfl, rfl⟩
  rw [if_neg c8_2] at h
  by_cases c8_3 : v1 = 3
  · rw [if_pos c8_3] at h
    refine x_tableIn F (off := 86) (tgt := 94) dX11_now_8 (by rw [c8_3]; decide) (by rw [c8_3]; decide) (by rw [c8_3]; decide) (by decide) ?_
    refine x_iconst F (v := 0) dX11_now_94 (by decide) ?_
    refine x_istore_n F (lv' := [(3, .int 0), (2, .int 0), (0, .ref (b + v0)), (1, .int v1)]) dX11_now_95 rfl (by decide) rfl ?_
    have L96 : ∀ (v0 : Nat) (n : Nat) (v2 : Int32) (v3 : Int32) (M : Mem) (o : Int32 × Mem), fX11_now_L96 N v0 n v2 v3 M = some o → (∀ (r' : Int32) (M' : Mem), o = (r', M') → r' = r ∧ M' = Mf) → X p l e ({ frames := 7, cells := 0, slots := 0, locals := 100 * 7 }) s m args below meth c (MQ below (Qm b D cy (some (.int r)) Mf) args s 0 0 (fun q => b ≤ q)) 4 b D cy 0 0 M 96 [(0, .ref (b + v0)), (2, .int v2), (3, .int v3)] [] := by
      intro v0 n
      induction n with
      | zero => intro v2 v3 M o h; exact absurd h (by rw [fX11_now_L96]; exact fun z => by cases z)
      | succ n ih =>
        intro v2 v3 M o h hR
        rw [fX11_now_L96] at h
        refine x_iload_n F dX11_now_96 rfl 2 rfl ?_
        refine x_aload_n F dX11_now_97 rfl 0 rfl ?_
        obtain ⟨x98, c98, h⟩ := bdS h
        refine x_getR F (ci := 11) (C := RX11) (T := TX11) (N := 45) rfl ⟨by decide, rfl⟩ inU11 14 (by decide) (fun _ _ _ => rfl) wl_913 c98 dX11_now_98 ?_
        refine x_iconst F (v := 2) dX11_now_101 (by decide) ?_
        obtain ⟨x102, c102, h⟩ := bdS h
        refine x_aI F c102 dX11_now_102 ?_
        refine x_icmp_ge F (tgt := 127) dX11_now_103 (by decide) (fun c103 => ?_) (fun c103 => ?_)
        · rw [if_pos c103] at h
          refine x_iload_n F dX11_now_127 rfl 1 rfl ?_
          obtain rfl := Option.some.inj h
          obtain ⟨rfl, rfl⟩ := hR _ _ rfl
          exact x_iret F hr hl dX11_now_128
        · rw [if_neg c103] at h
          refine x_aload_n F dX11_now_106 rfl 0 rfl ?_
          refine x_iload_n F dX11_now_107 rfl 2 rfl ?_
          obtain ⟨k108, h⟩ := gdS h
          obtain ⟨⟨x108, M108⟩, c108, h⟩ := bdS h
          dsimp only at h
          refine x_callV F (As := [.int v3]) (rest := []) (res := (some (.int x108))) (ci := 11) (q := (RX11, TX11, 45)) rfl (by decide) k108 (k_X11_readIn l b D cy N v0 v3 M _ _ c108) wl_1059 wl_1060 wl_1061 wl_854 wl_1032 hd_X11_readIn ⟨Nat.le_of_ble_eq_true rfl, Nat.le_of_ble_eq_true rfl⟩ ⟨Nat.le_refl _, Nat.le_refl _⟩ (Nat.le_of_ble_eq_true rfl) rfl dX11_now_108 ?_
          refine x_iconst F (v := (-1)) dX11_now_111 (by decide) ?_
          refine x_icmp_eq F (tgt := 121) dX11_now_112 (by decide) (fun c112 => ?_) (fun c112 => ?_)
          · rw [if_pos c112] at h
            refine x_iinc F (v := v3 + 1) (lv' := [(3, .int (v3 + 1)), (0, .ref (b + v0)), (2, .int v2)]) dX11_now_121 2 rfl rfl (by decide) rfl ?_
            refine x_goto F (tgt := 96) dX11_now_124 (by decide) ?_
            refine x_sub [1, 2, 0] rfl ?_
            exact ih v2 (v3 + 1) M108 o h hR
          · rw [if_neg c112] at h
            refine x_iload_n F dX11_now_115 rfl 1 rfl ?_
            refine x_iconst F (v := 1) dX11_now_116 (by decide) ?_
            refine x_iload_n F dX11_now_117 rfl 2 rfl ?_
            refine x_ishl F dX11_now_118 ?_
            refine x_ior F dX11_now_119 ?_
            refine x_istore_n F (lv' := [(2, .int (v2 ||| (1 <<< (v3 &&& 31)))), (0, .ref (b + v0)), (3, .int v3)]) dX11_now_120 rfl (by decide) rfl ?_
            refine x_iinc F (v := v3 + 1) (lv' := [(3, .int (v3 + 1)), (2, .int (v2 ||| (1 <<< (v3 &&& 31)))), (0, .ref (b + v0))]) dX11_now_121 2 rfl rfl (by decide) rfl ?_
            refine x_goto F (tgt := 96) dX11_now_124 (by decide) ?_
            refine x_sub [2, 1, 0] rfl ?_
            exact ih (v2 ||| (1 <<< (v3 &&& 31))) (v3 + 1) M108 o h hR
    obtain ⟨o96, h96, h⟩ := bdS h
    refine x_sub [2, 1, 0] rfl ?_
    refine L96 v0 N 0 0 M2 o96 h96 (fun r' M' e => ?_)
    · subst e
      try dsimp only at h
      obtain ⟨rfl, rfl⟩ := retS h; exact ⟨rfl, rfl⟩
  rw [if_neg c8_3] at h
  by_cases c8_4 : v1 = 4
  · rw [if_pos c8_4] at h
    refine x_tableIn F (off := 121) (tgt := 129) dX11_now_8 (by rw [c8_4]; decide) (by rw [c8_4]; decide) (by rw [c8_4]; decide) (by decide) ?_
    refine x_aload_n F dX11_now_129 rfl 1 rfl ?_
    obtain ⟨x130, c130, h⟩ := bdS h
    refine x_getR F (ci := 11) (C := RX11) (T := TX11) (N := 45) rfl ⟨by decide, rfl⟩ inU11 14 (by decide) (fun _ _ _ => rfl) wl_913 c130 dX11_now_130 ?_
    refine x_bipush F (v := 38) dX11_now_133 (by decide) ?_
    obtain ⟨x135, c135, h⟩ := bdS h
    refine x_aI F c135 dX11_now_135 ?_
    obtain ⟨rfl, rfl⟩ := retS h
    exact x_iret F hr hl dX11_now_136
  rw [if_neg c8_4] at h
  by_cases c8_5 : v1 = 5
  · rw [if_pos c8_5] at h
    refine x_tableIn F (off := 129) (tgt := 137) dX11_now_8 (by rw [c8_5]; decide) (by rw [c8_5]; decide) (by rw [c8_5]; decide) (by decide) ?_
    refine x_aload_n F dX11_now_137 rfl 1 rfl ?_
    obtain ⟨x138, c138, h⟩ := bdS h
    refine x_getR F (ci := 11) (C := RX11) (T := TX11) (N := 45) rfl ⟨by decide, rfl⟩ inU11 14 (by decide) (fun _ _ _ => rfl) wl_913 c138 dX11_now_138 ?_
    refine x_bipush F (v := 36) dX11_now_141 (by decide) ?_
    obtain ⟨x143, c143, h⟩ := bdS h
    refine x_aI F c143 dX11_now_143 ?_
    obtain ⟨rfl, rfl⟩ := retS h
    exact x_iret F hr hl dX11_now_144
  rw [if_neg c8_5] at h
  by_cases c8_6 : v1 = 6
  · rw [if_pos c8_6] at h
    refine x_tableIn F (off := 137) (tgt := 145) dX11_now_8 (by rw [c8_6]; decide) (by rw [c8_6]; decide) (by rw [c8_6]; decide) (by decide) ?_
    refine x_aload_n F dX11_now_145 rfl 1 rfl ?_
    obtain ⟨x146, c146, h⟩ := bdS h
    refine x_getR F (ci := 11) (C := RX11) (T := TX11) (N := 45) rfl ⟨by decide, rfl⟩ inU11 14 (by decide) (fun _ _ _ => rfl) wl_913 c146 dX11_now_146 ?_
    refine x_bipush F (v := 37) dX11_now_149 (by decide) ?_
    obtain ⟨x151, c151, h⟩ := bdS h
    refine x_aI F c151 dX11_now_151 ?_
    obtain ⟨rfl, rfl⟩ := retS h
    exact x_iret F hr hl dX11_now_152
  rw [if_neg c8_6] at h
  refine x_tableOut F (tgt := 153) dX11_now_8 (by have q0 := sw_ne (t := 0) c8_0 (by decide); have q1 := sw_ne (t := 1) c8_1 (by decide); have q2 := sw_ne (t := 2) c8_2 (by decide); have q3 := sw_ne (t := 3) c8_3 (by decide); have q4 := sw_ne (t := 4) c8_4 (by decide); have q5 := sw_ne (t := 5) c8_5 (by decide); have q6 := sw_ne (t := 6) c8_6 (by decide); omega) (by decide) ?_
  refine x_iconst F (v := (-1)) dX11_now_153 (by decide) ?_
  obtain ⟨rfl, rfl⟩ := retS h
  exact x_iret F hr hl dX11_now_154
