theorem dX9_readMark_0 : decode cX9_readMark 0 = .ok (.aload_n 0, 1) := by decide +kernel
theorem dX9_readMark_1 : decode cX9_readMark 1 = .ok (.aload_n 0, 1) := by decide +kernel
theorem dX9_readMark_2 : decode cX9_readMark 2 = .ok (.getfield 9, 3) := by decide +kernel
theorem dX9_readMark_5 : decode cX9_readMark 5 = .ok (.aload_n 0, 1) := by decide +kernel
theorem dX9_readMark_6 : decode cX9_readMark 6 = .ok (.getfield 26, 3) := by decide +kernel
theorem dX9_readMark_9 : decode cX9_readMark 9 = .ok (.iaload, 1) := by decide +kernel
theorem dX9_readMark_10 : decode cX9_readMark 10 = .ok (.putfield 35, 3) := by decide +kernel
theorem dX9_readMark_13 : decode cX9_readMark 13 = .ok (.aload_n 0, 1) := by decide +kernel
theorem dX9_readMark_14 : decode cX9_readMark 14 = .ok (.dup, 1) := by decide +kernel
theorem dX9_readMark_15 : decode cX9_readMark 15 = .ok (.getfield 26, 3) := by decide +kernel
theorem dX9_readMark_18 : decode cX9_readMark 18 = .ok (.iconst 1, 1) := by decide +kernel
theorem dX9_readMark_19 : decode cX9_readMark 19 = .ok (.iadd, 1) := by decide +kernel
theorem dX9_readMark_20 : decode cX9_readMark 20 = .ok (.putfield 26, 3) := by decide +kernel
theorem dX9_readMark_23 : decode cX9_readMark 23 = .ok (.aload_n 0, 1) := by decide +kernel
theorem dX9_readMark_24 : decode cX9_readMark 24 = .ok (.getfield 35, 3) := by decide +kernel
theorem dX9_readMark_27 : decode cX9_readMark 27 = .ok (.bipush 59, 2) := by decide +kernel
theorem dX9_readMark_29 : decode cX9_readMark 29 = .ok (.if_icmp .eq 48, 3) := by decide +kernel
theorem dX9_readMark_32 : decode cX9_readMark 32 = .ok (.aload_n 0, 1) := by decide +kernel
theorem dX9_readMark_33 : decode cX9_readMark 33 = .ok (.getfield 35, 3) := by decide +kernel
theorem dX9_readMark_36 : decode cX9_readMark 36 = .ok (.bipush 60, 2) := by decide +kernel
theorem dX9_readMark_38 : decode cX9_readMark 38 = .ok (.if_icmp .eq 39, 3) := by decide +kernel
theorem dX9_readMark_41 : decode cX9_readMark 41 = .ok (.aload_n 0, 1) := by decide +kernel
theorem dX9_readMark_42 : decode cX9_readMark 42 = .ok (.getfield 35, 3) := by decide +kernel
theorem dX9_readMark_45 : decode cX9_readMark 45 = .ok (.bipush 61, 2) := by decide +kernel
theorem dX9_readMark_47 : decode cX9_readMark 47 = .ok (.if_icmp .eq 30, 3) := by decide +kernel
theorem dX9_readMark_50 : decode cX9_readMark 50 = .ok (.aload_n 0, 1) := by decide +kernel
theorem dX9_readMark_51 : decode cX9_readMark 51 = .ok (.getfield 35, 3) := by decide +kernel
theorem dX9_readMark_54 : decode cX9_readMark 54 = .ok (.bipush 62, 2) := by decide +kernel
theorem dX9_readMark_56 : decode cX9_readMark 56 = .ok (.if_icmp .eq 21, 3) := by decide +kernel
theorem dX9_readMark_59 : decode cX9_readMark 59 = .ok (.aload_n 0, 1) := by decide +kernel
theorem dX9_readMark_60 : decode cX9_readMark 60 = .ok (.getfield 35, 3) := by decide +kernel
theorem dX9_readMark_63 : decode cX9_readMark 63 = .ok (.bipush 40, 2) := by decide +kernel
theorem dX9_readMark_65 : decode cX9_readMark 65 = .ok (.if_icmp .eq 12, 3) := by decide +kernel
theorem dX9_readMark_68 : decode cX9_readMark 68 = .ok (.aload_n 0, 1) := by decide +kernel
theorem dX9_readMark_69 : decode cX9_readMark 69 = .ok (.getfield 35, 3) := by decide +kernel
theorem dX9_readMark_72 : decode cX9_readMark 72 = .ok (.bipush 41, 2) := by decide +kernel
theorem dX9_readMark_74 : decode cX9_readMark 74 = .ok (.if_icmp .ne 7, 3) := by decide +kernel
theorem dX9_readMark_77 : decode cX9_readMark 77 = .ok (.iconst 1, 1) := by decide +kernel
theorem dX9_readMark_78 : decode cX9_readMark 78 = .ok (.goto 4, 3) := by decide +kernel
theorem dX9_readMark_81 : decode cX9_readMark 81 = .ok (.iconst 0, 1) := by decide +kernel
theorem dX9_readMark_82 : decode cX9_readMark 82 = .ok (.istore_n 1, 1) := by decide +kernel
theorem dX9_readMark_83 : decode cX9_readMark 83 = .ok (.aload_n 0, 1) := by decide +kernel
theorem dX9_readMark_84 : decode cX9_readMark 84 = .ok (.iload_n 1, 1) := by decide +kernel
theorem dX9_readMark_85 : decode cX9_readMark 85 = .ok (.ifCond .eq 7, 3) := by decide +kernel
theorem dX9_readMark_88 : decode cX9_readMark 88 = .ok (.iconst 3, 1) := by decide +kernel
theorem dX9_readMark_89 : decode cX9_readMark 89 = .ok (.goto 4, 3) := by decide +kernel
theorem dX9_readMark_92 : decode cX9_readMark 92 = .ok (.iconst 4, 1) := by decide +kernel
theorem dX9_readMark_93 : decode cX9_readMark 93 = .ok (.putfield 29, 3) := by decide +kernel
theorem dX9_readMark_96 : decode cX9_readMark 96 = .ok (.return_, 1) := by decide +kernel
def fX9_readMark_J82 (N : Nat) (v0 : Nat) (s0 : Int32) (M : Mem) : Option (Unit × Mem) := (if s0 = 0 then ((pI M 9 v0 5 4).bind fun M93 => some ((), M93)) else ((pI M 9 v0 5 3).bind fun M93 => some ((), M93)))
def fX9_readMark_J77 (N : Nat) (v0 : Nat) (M : Mem) : Option (Unit × Mem) := fX9_readMark_J82 N v0 1 M
def fX9_readMark (N : Nat) (v0 : Nat) (M : Mem) : Option (Unit × Mem) := ((fR M 9 v0 0).bind fun x2 => ((fI M 9 v0 4).bind fun x6 => ((aI M x2 x6).bind fun x9 => ((pI M 9 v0 7 x9).bind fun M10 => ((fI M10 9 v0 4).bind fun x15 => ((pI M10 9 v0 4 (x15 + 1)).bind fun M20 => ((fI M20 9 v0 7).bind fun x24 => (if x24 = 59 then fX9_readMark_J77 N v0 M20 else ((fI M20 9 v0 7).bind fun x33 => (if x33 = 60 then fX9_readMark_J77 N v0 M20 else ((fI M20 9 v0 7).bind fun x42 => (if x42 = 61 then fX9_readMark_J77 N v0 M20 else ((fI M20 9 v0 7).bind fun x51 => (if x51 = 62 then fX9_readMark_J77 N v0 M20 else ((fI M20 9 v0 7).bind fun x60 => (if x60 = 40 then fX9_readMark_J77 N v0 M20 else ((fI M20 9 v0 7).bind fun x69 => (if x69 = 41 then fX9_readMark_J77 N v0 M20 else fX9_readMark_J82 N v0 0 M20))))))))))))))))))
set_option maxHeartbeats 4000000 in
set_option maxRecDepth 100000 in
theorem k_X9_readMark (l : Launch) (b : Nat) (D : va_G) (cy : Nat → ClassId) (N : Nat) (v0 : Nat) (M : Mem) (r : Unit) (Mf : Mem) (h : fX9_readMark N v0 M = some (r, Mf)) : Ct l yX9_readMark cX9_readMark 2 none 1 0 0 b D cy [.ref (b + v0)] M none Mf := by
  refine Ct_of (own := RX9) (by decide) rfl (Nat.le_of_ble_eq_true rfl) ?_
  intro p e s m args below meth c F hr hl hmn
  unfold fX9_readMark at h
  have J82 : ∀ (v0 : Nat) (s0 : Int32) (M : Mem), fX9_readMark_J82 N v0 s0 M = some (r, Mf) → X p l e ({ frames := 1, cells := 0, slots := 0, locals := 100 * 1 }) s m args below meth c (MQ below (Qm b D cy none Mf) args s 0 0 (fun q => b ≤ q)) 2 b D cy 0 0 M 82 [(0, .ref (b + v0))] [.int s0] := by
    intro v0 s0 M h
    unfold fX9_readMark_J82 at h
    refine x_istore_n F (lv' := [(1, .int s0), (0, .ref (b + v0))]) dX9_readMark_82 rfl (by decide) rfl ?_
    refine x_aload_n F dX9_readMark_83 rfl 1 rfl ?_
    refine x_iload_n F dX9_readMark_84 rfl 0 rfl ?_
    refine x_if_eq F (tgt := 92) dX9_readMark_85 (by decide) (fun c85 => ?_) (fun c85 => ?_)
    · rw [if_pos c85] at h
      refine x_iconst F (v := 4) dX9_readMark_92 (by decide) ?_
      obtain ⟨M93, c93, h⟩ := bdS h
      refine x_putI F (ci := 9) (C := RX9) (T := TX9) (N := 12) rfl ⟨by decide, rfl⟩ inU9 tyX9_ok nmX9 5 (by decide) rfl rfl wl_154 c93 dX9_readMark_93 ?_
      obtain ⟨rfl, rfl⟩ := retS h
      exact x_vret F hr hl dX9_readMark_96
    · rw [if_neg c85] at h
      refine x_iconst F (v := 3) dX9_readMark_88 (by decide) ?_
      refine x_goto F (tgt := 93) dX9_readMark_89 (by decide) ?_
      obtain ⟨M93, c93, h⟩ := bdS h
      refine x_putI F (ci := 9) (C := RX9) (T := TX9) (N := 12) rfl ⟨by decide, rfl⟩ inU9 tyX9_ok nmX9 5 (by decide) rfl rfl wl_154 c93 dX9_readMark_93 ?_
      obtain ⟨rfl, rfl⟩ := retS h
      exact x_vret F hr hl dX9_readMark_96
  have J77 : ∀ (v0 : Nat) (M : Mem), fX9_readMark_J77 N v0 M = some (r, Mf) → X p l e ({ frames := 1, cells := 0, slots := 0, locals := 100 * 1 }) s m args below meth c (MQ below (Qm b D cy none Mf) args s 0 0 (fun q => b ≤ q)) 2 b D cy 0 0 M 77 [(0, .ref (b + v0))] [] := by
    intro v0 M h
    unfold fX9_readMark_J77 at h
    refine x_iconst F (v := 1) dX9_readMark_77 (by decide) ?_
    refine x_goto F (tgt := 82) dX9_readMark_78 (by decide) ?_
    exact J82 v0 1 M h
  show X p l e ({ frames := 1, cells := 0, slots := 0, locals := 100 * 1 }) s m args below meth c (MQ below (Qm b D cy none Mf) args s 0 0 (fun q => b ≤ q)) 2 b D cy 0 0 M 0 [(0, .ref (b + v0))] []
  refine x_aload_n F dX9_readMark_0 rfl 0 rfl ?_
  refine x_aload_n F dX9_readMark_1 rfl 0 rfl ?_
  obtain ⟨x2, c2, h⟩ := bdS h
  refine x_getR F (ci := 9) (C := RX9) (T := TX9) (N := 12) rfl ⟨by decide, rfl⟩ inU9 0 (by decide) (fun _ _ _ => rfl) wl_149 c2 dX9_readMark_2 ?_
  refine x_aload_n F dX9_readMark_5 rfl 0 rfl ?_
  obtain ⟨x6, c6, h⟩ := bdS h
  refine x_getI F (ci := 9) (C := RX9) (T := TX9) (N := 12) rfl ⟨by decide, rfl⟩ inU9 4 (by decide) (fun _ _ _ => rfl) wl_147 c6 dX9_readMark_6 ?_
  obtain ⟨x9, c9, h⟩ := bdS h
  refine x_aI F c9 dX9_readMark_9 ?_
  obtain ⟨M10, c10, h⟩ := bdS h
  refine x_putI F (ci := 9) (C := RX9) (T := TX9) (N := 12) rfl ⟨by decide, rfl⟩ inU9 tyX9_ok nmX9 7 (by decide) rfl rfl wl_152 c10 dX9_readMark_10 ?_
  refine x_aload_n F dX9_readMark_13 rfl 0 rfl ?_
  refine x_dup F dX9_readMark_14 rfl ?_
  obtain ⟨x15, c15, h⟩ := bdS h
  refine x_getI F (ci := 9) (C := RX9) (T := TX9) (N := 12) rfl ⟨by decide, rfl⟩ inU9 4 (by decide) (fun _ _ _ => rfl) wl_147 c15 dX9_readMark_15 ?_
  refine x_iconst F (v := 1) dX9_readMark_18 (by decide) ?_
  refine x_iadd F dX9_readMark_19 ?_
  obtain ⟨M20, c20, h⟩ := bdS h
  refine x_putI F (ci := 9) (C := RX9) (T := TX9) (N := 12) rfl ⟨by decide, rfl⟩ inU9 tyX9_ok nmX9 4 (by decide) rfl rfl wl_147 c20 dX9_readMark_20 ?_
  refine x_aload_n F dX9_readMark_23 rfl 0 rfl ?_
  obtain ⟨x24, c24, h⟩ := bdS h
  refine x_getI F (ci := 9) (C := RX9) (T := TX9) (N := 12) rfl ⟨by decide, rfl⟩ inU9 7 (by decide) (fun _ _ _ => rfl) wl_152 c24 dX9_readMark_24 ?_
  refine x_bipush F (v := 59) dX9_readMark_27 (by decide) ?_
  refine x_icmp_eq F (tgt := 77) dX9_readMark_29 (by decide) (fun c29 => ?_) (fun c29 => ?_)
  · rw [if_pos c29] at h
    exact J77 v0 M20 h
  · rw [if_neg c29] at h
    refine x_aload_n F dX9_readMark_32 rfl 0 rfl ?_
    obtain ⟨x33, c33, h⟩ := bdS h
    refine x_getI F (ci := 9) (C := RX9) (T := TX9) (N := 12) rfl ⟨by decide, rfl⟩ inU9 7 (by decide) (fun _ _ _ => rfl) wl_152 c33 dX9_readMark_33 ?_
    refine x_bipush F (v := 60) dX9_readMark_36 (by decide) ?_
    refine x_icmp_eq F (tgt := 77) dX9_readMark_38 (by decide) (fun c38 => ?_) (fun c38 => ?_)
    · rw [if_pos c38] at h
      exact J77 v0 M20 h
    · rw [if_neg c38] at h
      refine x_aload_n F dX9_readMark_41 rfl 0 rfl ?_
      obtain ⟨x42, c42, h⟩ := bdS h
      refine x_getI F (ci := 9) (C := RX9) (T := TX9) (N := 12) rfl ⟨by decide, rfl⟩ inU9 7 (by decide) (fun _ _ _ => rfl) wl_152 c42 dX9_readMark_42 ?_
      refine x_bipush F (v := 61) dX9_readMark_45 (by decide) ?_
      refine x_icmp_eq F (tgt := 77) dX9_readMark_47 (by decide) (fun c47 => ?_) (fun c47 => ?_)
      · rw [if_pos c47] at h
        exact J77 v0 M20 h
      · rw [if_neg c47] at h
        refine x_aload_n F dX9_readMark_50 rfl 0 rfl ?_
        obtain ⟨x51, c51, h⟩ := bdS h
        refine x_getI F (ci := 9) (C := RX9) (T := TX9) (N := 12) rfl ⟨by decide, rfl⟩ inU9 7 (by decide) (fun _ _ _ => rfl) wl_152 c51 dX9_readMark_51 ?_
        refine x_bipush F (v := 62) dX9_readMark_54 (by decide) ?_
        refine x_icmp_eq F (tgt := 77) dX9_readMark_56 (by decide) (fun c56 => ?_) (fun c56 => ?_)
        · rw [if_pos c56] at h
          exact J77 v0 M20 h
        · rw [if_neg c56] at h
          refine x_aload_n F dX9_readMark_59 rfl 0 rfl ?_
          obtain ⟨x60, c60, h⟩ := bdS h
          refine x_getI F (ci := 9) (C := RX9) (T := TX9) (N := 12) rfl ⟨by decide, rfl⟩ inU9 7 (by decide) (fun _ _ _ => rfl) wl_152 c60 dX9_readMark_60 ?_
          refine x_bipush F (v := 40) dX9_readMark_63 (by decide) ?_
          refine x_icmp_eq F (tgt := 77) dX9_readMark_65 (by decide) (fun c65 => ?_) (fun c65 => ?_)
          · rw [if_pos c65] at h
            exact J77 v0 M20 h
          · rw [if_neg c65] at h
            refine x_aload_n F dX9_readMark_68 rfl 0 rfl ?_
            obtain ⟨x69, c69, h⟩ := bdS h
            refine x_getI F (ci := 9) (C := RX9) (T := TX9) (N := 12) rfl ⟨by decide, rfl⟩ inU9 7 (by decide) (fun _ _ _ => rfl) wl_152 c69 dX9_readMark_69 ?_
            refine x_bipush F (v := 41) dX9_readMark_72 (by decide) ?_
            refine x_icmp_ne F (tgt := 81) dX9_readMark_74 (by decide) (fun c74 => ?_) (fun c74 => ?_)
            · rw [if_neg c74] at h
              refine x_iconst F (v := 0) dX9_readMark_81 (by decide) ?_
              exact J82 v0 0 M20 h
            · rw [if_pos c74] at h
              exact J77 v0 M20 h
theorem dX9_readRun_0 : decode cX9_readRun 0 = .ok (.iconst 0, 1) := by decide +kernel
theorem dX9_readRun_1 : decode cX9_readRun 1 = .ok (.istore_n 1, 1) := by decide +kernel
theorem dX9_readRun_2 : decode cX9_readRun 2 = .ok (.iconst 0, 1) := by decide +kernel
theorem dX9_readRun_3 : decode cX9_readRun 3 = .ok (.istore_n 2, 1) := by decide +kernel
theorem dX9_readRun_4 : decode cX9_readRun 4 = .ok (.aload_n 0, 1) := by decide +kernel
theorem dX9_readRun_5 : decode cX9_readRun 5 = .ok (.lconst 0, 1) := by decide +kernel
theorem dX9_readRun_6 : decode cX9_readRun 6 = .ok (.putfield 38, 3) := by decide +kernel
theorem dX9_readRun_9 : decode cX9_readRun 9 = .ok (.aload_n 0, 1) := by decide +kernel
theorem dX9_readRun_10 : decode cX9_readRun 10 = .ok (.iconst 0, 1) := by decide +kernel
theorem dX9_readRun_11 : decode cX9_readRun 11 = .ok (.putfield 35, 3) := by decide +kernel
theorem dX9_readRun_14 : decode cX9_readRun 14 = .ok (.aload_n 0, 1) := by decide +kernel
theorem dX9_readRun_15 : decode cX9_readRun 15 = .ok (.getfield 26, 3) := by decide +kernel
theorem dX9_readRun_18 : decode cX9_readRun 18 = .ok (.aload_n 0, 1) := by decide +kernel
theorem dX9_readRun_19 : decode cX9_readRun 19 = .ok (.getfield 19, 3) := by decide +kernel
theorem dX9_readRun_22 : decode cX9_readRun 22 = .ok (.if_icmp .ge 95, 3) := by decide +kernel
theorem dX9_readRun_25 : decode cX9_readRun 25 = .ok (.aload_n 0, 1) := by decide +kernel
theorem dX9_readRun_26 : decode cX9_readRun 26 = .ok (.getfield 9, 3) := by decide +kernel
theorem dX9_readRun_29 : decode cX9_readRun 29 = .ok (.aload_n 0, 1) := by decide +kernel
theorem dX9_readRun_30 : decode cX9_readRun 30 = .ok (.getfield 26, 3) := by decide +kernel
theorem dX9_readRun_33 : decode cX9_readRun 33 = .ok (.iaload, 1) := by decide +kernel
theorem dX9_readRun_34 : decode cX9_readRun 34 = .ok (.istore_n 3, 1) := by decide +kernel
theorem dX9_readRun_35 : decode cX9_readRun 35 = .ok (.iload_n 3, 1) := by decide +kernel
theorem dX9_readRun_36 : decode cX9_readRun 36 = .ok (.bipush 97, 2) := by decide +kernel
theorem dX9_readRun_38 : decode cX9_readRun 38 = .ok (.if_icmp .lt 35, 3) := by decide +kernel
theorem dX9_readRun_41 : decode cX9_readRun 41 = .ok (.iload_n 3, 1) := by decide +kernel
theorem dX9_readRun_42 : decode cX9_readRun 42 = .ok (.bipush 122, 2) := by decide +kernel
theorem dX9_readRun_44 : decode cX9_readRun 44 = .ok (.if_icmp .gt 29, 3) := by decide +kernel
theorem dX9_readRun_47 : decode cX9_readRun 47 = .ok (.iinc 1 1, 3) := by decide +kernel
theorem dX9_readRun_50 : decode cX9_readRun 50 = .ok (.aload_n 0, 1) := by decide +kernel
theorem dX9_readRun_51 : decode cX9_readRun 51 = .ok (.aload_n 0, 1) := by decide +kernel
theorem dX9_readRun_52 : decode cX9_readRun 52 = .ok (.getfield 38, 3) := by decide +kernel
theorem dX9_readRun_55 : decode cX9_readRun 55 = .ok (.ldc2_w 62, 3) := by decide +kernel
theorem dX9_readRun_58 : decode cX9_readRun 58 = .ok (.lmul, 1) := by decide +kernel
theorem dX9_readRun_59 : decode cX9_readRun 59 = .ok (.iload_n 3, 1) := by decide +kernel
theorem dX9_readRun_60 : decode cX9_readRun 60 = .ok (.bipush 97, 2) := by decide +kernel
theorem dX9_readRun_62 : decode cX9_readRun 62 = .ok (.isub, 1) := by decide +kernel
theorem dX9_readRun_63 : decode cX9_readRun 63 = .ok (.iconst 1, 1) := by decide +kernel
theorem dX9_readRun_64 : decode cX9_readRun 64 = .ok (.iadd, 1) := by decide +kernel
theorem dX9_readRun_65 : decode cX9_readRun 65 = .ok (.i2l, 1) := by decide +kernel
theorem dX9_readRun_66 : decode cX9_readRun 66 = .ok (.ladd, 1) := by decide +kernel
theorem dX9_readRun_67 : decode cX9_readRun 67 = .ok (.putfield 38, 3) := by decide +kernel
theorem dX9_readRun_70 : decode cX9_readRun 70 = .ok (.goto 34, 3) := by decide +kernel
theorem dX9_readRun_73 : decode cX9_readRun 73 = .ok (.iload_n 3, 1) := by decide +kernel
theorem dX9_readRun_74 : decode cX9_readRun 74 = .ok (.bipush 48, 2) := by decide +kernel
theorem dX9_readRun_76 : decode cX9_readRun 76 = .ok (.if_icmp .lt 41, 3) := by decide +kernel
theorem dX9_readRun_79 : decode cX9_readRun 79 = .ok (.iload_n 3, 1) := by decide +kernel
theorem dX9_readRun_80 : decode cX9_readRun 80 = .ok (.bipush 57, 2) := by decide +kernel
theorem dX9_readRun_82 : decode cX9_readRun 82 = .ok (.if_icmp .gt 35, 3) := by decide +kernel
theorem dX9_readRun_85 : decode cX9_readRun 85 = .ok (.iinc 2 1, 3) := by decide +kernel
theorem dX9_readRun_88 : decode cX9_readRun 88 = .ok (.aload_n 0, 1) := by decide +kernel
theorem dX9_readRun_89 : decode cX9_readRun 89 = .ok (.aload_n 0, 1) := by decide +kernel
theorem dX9_readRun_90 : decode cX9_readRun 90 = .ok (.getfield 35, 3) := by decide +kernel
theorem dX9_readRun_93 : decode cX9_readRun 93 = .ok (.bipush 10, 2) := by decide +kernel
theorem dX9_readRun_95 : decode cX9_readRun 95 = .ok (.imul, 1) := by decide +kernel
theorem dX9_readRun_96 : decode cX9_readRun 96 = .ok (.iload_n 3, 1) := by decide +kernel
theorem dX9_readRun_97 : decode cX9_readRun 97 = .ok (.iadd, 1) := by decide +kernel
theorem dX9_readRun_98 : decode cX9_readRun 98 = .ok (.bipush 48, 2) := by decide +kernel
theorem dX9_readRun_100 : decode cX9_readRun 100 = .ok (.isub, 1) := by decide +kernel
theorem dX9_readRun_101 : decode cX9_readRun 101 = .ok (.putfield 35, 3) := by decide +kernel
theorem dX9_readRun_104 : decode cX9_readRun 104 = .ok (.aload_n 0, 1) := by decide +kernel
theorem dX9_readRun_105 : decode cX9_readRun 105 = .ok (.dup, 1) := by decide +kernel
theorem dX9_readRun_106 : decode cX9_readRun 106 = .ok (.getfield 26, 3) := by decide +kernel
theorem dX9_readRun_109 : decode cX9_readRun 109 = .ok (.iconst 1, 1) := by decide +kernel
theorem dX9_readRun_110 : decode cX9_readRun 110 = .ok (.iadd, 1) := by decide +kernel
theorem dX9_readRun_111 : decode cX9_readRun 111 = .ok (.putfield 26, 3) := by decide +kernel
theorem dX9_readRun_114 : decode cX9_readRun 114 = .ok (.goto (-100), 3) := by decide +kernel
theorem dX9_readRun_117 : decode cX9_readRun 117 = .ok (.iload_n 2, 1) := by decide +kernel
theorem dX9_readRun_118 : decode cX9_readRun 118 = .ok (.ifCond .ne 17, 3) := by decide +kernel
theorem dX9_readRun_121 : decode cX9_readRun 121 = .ok (.iload_n 1, 1) := by decide +kernel
theorem dX9_readRun_122 : decode cX9_readRun 122 = .ok (.bipush 7, 2) := by decide +kernel
theorem dX9_readRun_124 : decode cX9_readRun 124 = .ok (.if_icmp .gt 11, 3) := by decide +kernel
theorem dX9_readRun_127 : decode cX9_readRun 127 = .ok (.aload_n 0, 1) := by decide +kernel
theorem dX9_readRun_128 : decode cX9_readRun 128 = .ok (.iconst 1, 1) := by decide +kernel
theorem dX9_readRun_129 : decode cX9_readRun 129 = .ok (.putfield 29, 3) := by decide +kernel
theorem dX9_readRun_132 : decode cX9_readRun 132 = .ok (.goto 21, 3) := by decide +kernel
theorem dX9_readRun_135 : decode cX9_readRun 135 = .ok (.aload_n 0, 1) := by decide +kernel
theorem dX9_readRun_136 : decode cX9_readRun 136 = .ok (.iload_n 1, 1) := by decide +kernel
theorem dX9_readRun_137 : decode cX9_readRun 137 = .ok (.ifCond .ne 12, 3) := by decide +kernel
theorem dX9_readRun_140 : decode cX9_readRun 140 = .ok (.iload_n 2, 1) := by decide +kernel
theorem dX9_readRun_141 : decode cX9_readRun 141 = .ok (.iconst 3, 1) := by decide +kernel
theorem dX9_readRun_142 : decode cX9_readRun 142 = .ok (.if_icmp .gt 7, 3) := by decide +kernel
theorem dX9_readRun_145 : decode cX9_readRun 145 = .ok (.iconst 2, 1) := by decide +kernel
theorem dX9_readRun_146 : decode cX9_readRun 146 = .ok (.goto 4, 3) := by decide +kernel
theorem dX9_readRun_149 : decode cX9_readRun 149 = .ok (.iconst 4, 1) := by decide +kernel
theorem dX9_readRun_150 : decode cX9_readRun 150 = .ok (.putfield 29, 3) := by decide +kernel
theorem dX9_readRun_153 : decode cX9_readRun 153 = .ok (.return_, 1) := by decide +kernel
def fX9_readRun_J135 (N : Nat) (v0 : Nat) (v1 : Int32) (v2 : Int32) (M : Mem) : Option (Unit × Mem) := (if v1 = 0 then (if 3 < v2 then ((pI M 9 v0 5 4).bind fun M150 => some ((), M150)) else ((pI M 9 v0 5 2).bind fun M150 => some ((), M150))) else ((pI M 9 v0 5 4).bind fun M150 => some ((), M150)))
def fX9_readRun_J117 (N : Nat) (v0 : Nat) (v1 : Int32) (v2 : Int32) (M : Mem) : Option (Unit × Mem) := (if v2 = 0 then (if 7 < v1 then fX9_readRun_J135 N v0 v1 v2 M else ((pI M 9 v0 5 1).bind fun M129 => some ((), M129))) else fX9_readRun_J135 N v0 v1 v2 M)
def fX9_readRun_J104_14 (N : Nat) (rc : Int32 → Int32 → Mem → Option (Int32 × Int32 × Mem)) (v0 : Nat) (v1 : Int32) (v2 : Int32) (M : Mem) : Option (Int32 × Int32 × Mem) := ((fI M 9 v0 4).bind fun x106 => ((pI M 9 v0 4 (x106 + 1)).bind fun M111 => rc v1 v2 M111))
def fX9_readRun_J73_14 (N : Nat) (rc : Int32 → Int32 → Mem → Option (Int32 × Int32 × Mem)) (v0 : Nat) (v1 : Int32) (v2 : Int32) (v3 : Int32) (M : Mem) : Option (Int32 × Int32 × Mem) := (if v3 < 48 then some (v1, v2, M) else (if 57 < v3 then some (v1, v2, M) else ((fI M 9 v0 7).bind fun x90 => ((pI M 9 v0 7 (((x90 * 10) + v3) - 48)).bind fun M101 => fX9_readRun_J104_14 N rc v0 v1 (v2 + 1) M101))))
def fX9_readRun_L14 (N : Nat) (v0 : Nat) : Nat → Int32 → Int32 → Mem → Option (Int32 × Int32 × Mem)
  | 0, _, _, _ => none
  | n + 1, v1, v2, M => ((fI M 9 v0 4).bind fun x15 => ((fI M 9 v0 2).bind fun x19 => (if x19 ≤ x15 then some (v1, v2, M) else ((fR M 9 v0 0).bind fun x26 => ((fI M 9 v0 4).bind fun x30 => ((aI M x26 x30).bind fun x33 => (if x33 < 97 then fX9_readRun_J73_14 N (fX9_readRun_L14 N v0 n) v0 v1 v2 x33 M else (if 122 < x33 then fX9_readRun_J73_14 N (fX9_readRun_L14 N v0 n) v0 v1 v2 x33 M else ((fL M 9 v0 8).bind fun x52 => ((pL M 9 v0 8 ((x52 * ((32))) + (Int32.toInt64 ((x33 - 97) + 1)))).bind fun M67 => fX9_readRun_J104_14 N (fX9_readRun_L14 N v0 n) v0 (v1 + 1) v2 M67))))))))))
def fX9_readRun (N : Nat) (v0 : Nat) (M : Mem) : Option (Unit × Mem) := ((pL M 9 v0 8 0).bind fun M6 => ((pI M6 9 v0 7 0).bind fun M11 => ((fX9_readRun_L14 N v0 N 0 0 M11).bind fun o14 => match o14 with | (w1_14, w2_14, M14) => fX9_readRun_J117 N v0 w1_14 w2_14 M14)))
set_option maxHeartbeats 4000000 in
set_option maxRecDepth 100000 in
theorem k_X9_readRun (l : Launch) (b : Nat) (D : va_G) (cy : Nat → ClassId) (N : Nat) (v0 : Nat) (M : Mem) (r : Unit) (Mf : Mem) (h : fX9_readRun N v0 M = some (r, Mf)) : Ct l yX9_readRun cX9_readRun 4 none 1 0 0 b D cy [.ref (b + v0)] M none Mf := by
  refine Ct_of (own := RX9) (by decide) rfl (Nat.le_of_ble_eq_true rfl) ?_
  intro p e s m args below meth c F hr hl hmn
  unfold fX9_readRun at h
  have J135 : ∀ (v0 : Nat) (v1 : Int32) (v2 : Int32) (M : Mem), fX9_readRun_J135 N v0 v1 v2 M = some (r, Mf) → X p l e ({ frames := 1, cells := 0, slots := 0, locals := 100 * 1 }) s m args below meth c (MQ below (Qm b D cy none Mf) args s 0 0 (fun q => b ≤ q)) 4 b D cy 0 0 M 135 [(0, .ref (b + v0)), (1, .int v1), (2, .int v2)] [] := by
    intro v0 v1 v2 M h
    unfold fX9_readRun_J135 at h
    refine x_aload_n F dX9_readRun_135 rfl 0 rfl ?_
    refine x_iload_n F dX9_readRun_136 rfl 1 rfl ?_
    refine x_if_ne F (tgt := 149) dX9_readRun_137 (by decide) (fun c137 => ?_) (fun c137 => ?_)
    · rw [if_neg c137] at h
      refine x_iconst F (v := 4) dX9_readRun_149 (by decide) ?_
      obtain ⟨M150, c150, h⟩ := bdS h
      refine x_putI F (ci := 9) (C := RX9) (T := TX9) (N := 12) rfl ⟨by decide, rfl⟩ inU9 tyX9_ok nmX9 5 (by decide) rfl rfl wl_154 c150 dX9_readRun_150 ?_
      obtain ⟨rfl, rfl⟩ := retS h
      exact x_vret F hr hl dX9_readRun_153
    · rw [if_pos c137] at h
      refine x_iload_n F dX9_readRun_140 rfl 2 rfl ?_
      refine x_iconst F (v := 3) dX9_readRun_141 (by decide) ?_
      refine x_icmp_gt F (tgt := 149) dX9_readRun_142 (by decide) (fun c142 => ?_) (fun c142 => ?_)
      · rw [if_pos c142] at h
        refine x_iconst F (v := 4) dX9_readRun_149 (by decide) ?_
        obtain ⟨M150, c150, h⟩ := bdS h
        refine x_putI F (ci := 9) (C := RX9) (T := TX9) (N := 12) rfl ⟨by decide, rfl⟩ inU9 tyX9_ok nmX9 5 (by decide) rfl rfl wl_154 c150 dX9_readRun_150 ?_
        obtain ⟨rfl, rfl⟩ := retS h
        exact x_vret F hr hl dX9_readRun_153
      · rw [if_neg c142] at h
        refine x_iconst F (v := 2) dX9_readRun_145 (by decide) ?_
        refine x_goto F (tgt := 150) dX9_readRun_146 (by decide) ?_
        obtain ⟨M150, c150, h⟩ := bdS h
        refine x_putI F (ci := 9) (C := RX9) (T := TX9) (N := 12) rfl ⟨by decide, rfl⟩ inU9 tyX9_ok nmX9 5 (by decide) rfl rfl wl_154 c150 dX9_readRun_150 ?_
        obtain ⟨rfl, rfl⟩ := retS h
        exact x_vret F hr hl dX9_readRun_153
  have J117 : ∀ (v0 : Nat) (v1 : Int32) (v2 : Int32) (M : Mem), fX9_readRun_J117 N v0 v1 v2 M = some (r, Mf) → X p l e ({ frames := 1, cells := 0, slots := 0, locals := 100 * 1 }) s m args below meth c (MQ below (Qm b D cy none Mf) args s 0 0 (fun q => b ≤ q)) 4 b D cy 0 0 M 117 [(0, .ref (b + v0)), (1, .int v1), (2, .int v2)] [] := by
    intro v0 v1 v2 M h
    unfold fX9_readRun_J117 at h
    refine x_iload_n F dX9_readRun_117 rfl 2 rfl ?_
    refine x_if_ne F (tgt := 135) dX9_readRun_118 (by decide) (fun c118 => ?_) (fun c118 => ?_)
    · rw [if_neg c118] at h
      exact J135 v0 v1 v2 M h
    · rw [if_pos c118] at h
      refine x_iload_n F dX9_readRun_121 rfl 1 rfl ?_
      refine x_bipush F (v := 7) dX9_readRun_122 (by decide) ?_
      refine x_icmp_gt F (tgt := 135) dX9_readRun_124 (by decide) (fun c124 => ?_) (fun c124 => ?_)
      · rw [if_pos c124] at h
        exact J135 v0 v1 v2 M h
      · rw [if_neg c124] at h
        refine x_aload_n F dX9_readRun_127 rfl 0 rfl ?_
        refine x_iconst F (v := 1) dX9_readRun_128 (by decide) ?_
        obtain ⟨M129, c129, h⟩ := bdS h
        refine x_putI F (ci := 9) (C := RX9) (T := TX9) (N := 12) rfl ⟨by decide, rfl⟩ inU9 tyX9_ok nmX9 5 (by decide) rfl rfl wl_154 c129 dX9_readRun_129 ?_
        refine x_goto F (tgt := 153) dX9_readRun_132 (by decide) ?_
        obtain ⟨rfl, rfl⟩ := retS h
        exact x_vret F hr hl dX9_readRun_153
  show X p l e ({ frames := 1, cells := 0, slots := 0, locals := 100 * 1 }) s m args below meth c (MQ below (Qm b D cy none Mf) args s 0 0 (fun q => b ≤ q)) 4 b D cy 0 0 M 0 [(0, .ref (b + v0))] []
  refine x_iconst F (v := 0) dX9_readRun_0 (by decide) ?_
  refine x_istore_n F (lv' := [(1, .int 0), (0, .ref (b + v0))]) dX9_readRun_1 rfl (by decide) rfl ?_
  refine x_iconst F (v := 0) dX9_readRun_2 (by decide) ?_
  refine x_istore_n F (lv' := [(2, .int 0), (1, .int 0), (0, .ref (b + v0))]) dX9_readRun_3 rfl (by decide) rfl ?_
  refine x_aload_n F dX9_readRun_4 rfl 2 rfl ?_
  refine x_lconst F (v := 0) dX9_readRun_5 (by decide) ?_
  obtain ⟨M6, c6, h⟩ := bdS h
  refine x_putL F (ci := 9) (C := RX9) (T := TX9) (N := 12) rfl ⟨by decide, rfl⟩ inU9 tyX9_ok nmX9 8 (by decide) rfl rfl wl_151 c6 dX9_readRun_6 ?_
  refine x_aload_n F dX9_readRun_9 rfl 2 rfl ?_
  refine x_iconst F (v := 0) dX9_readRun_10 (by decide) ?_
  obtain ⟨M11, c11, h⟩ := bdS h
  refine x_putI F (ci := 9) (C := RX9) (T := TX9) (N := 12) rfl ⟨by decide, rfl⟩ inU9 tyX9_ok nmX9 7 (by decide) rfl rfl wl_152 c11 dX9_readRun_11 ?_
  have L14 : ∀ (v0 : Nat) (n : Nat) (v1 : Int32) (v2 : Int32) (M : Mem) (o : Int32 × Int32 × Mem), fX9_readRun_L14 N v0 n v1 v2 M = some o → (∀ (w1 : Int32) (w2 : Int32) (M' : Mem), o = (w1, w2, M') → X p l e ({ frames := 1, cells := 0, slots := 0, locals := 100 * 1 }) s m args below meth c (MQ below (Qm b D cy none Mf) args s 0 0 (fun q => b ≤ q)) 4 b D cy 0 0 M' 117 [(0, .ref (b + v0)), (1, .int w1), (2, .int w2)] []) → X p l e ({ frames := 1, cells := 0, slots := 0, locals := 100 * 1 }) s m args below meth c (MQ below (Qm b D cy none Mf) args s 0 0 (fun q => b ≤ q)) 4 b D cy 0 0 M 14 [(0, .ref (b + v0)), (1, .int v1), (2, .int v2)] [] := by
    intro v0 n
    induction n with
    | zero => intro v1 v2 M o h; exact absurd h (by rw [fX9_readRun_L14]; exact fun z => by cases z)
    | succ n ih =>
      intro v1 v2 M o h hE
      rw [fX9_readRun_L14] at h
      have J104 : ∀ (v1 : Int32) (v2 : Int32) (M : Mem), fX9_readRun_J104_14 N (fX9_readRun_L14 N v0 n) v0 v1 v2 M = some o → X p l e ({ frames := 1, cells := 0, slots := 0, locals := 100 * 1 }) s m args below meth c (MQ below (Qm b D cy none Mf) args s 0 0 (fun q => b ≤ q)) 4 b D cy 0 0 M 104 [(0, .ref (b + v0)), (1, .int v1), (2, .int v2)] [] := by
        intro v1 v2 M h
        unfold fX9_readRun_J104_14 at h
        refine x_aload_n F dX9_readRun_104 rfl 0 rfl ?_
        refine x_dup F dX9_readRun_105 rfl ?_
        obtain ⟨x106, c106, h⟩ := bdS h
        refine x_getI F (ci := 9) (C := RX9) (T := TX9) (N := 12) rfl ⟨by decide, rfl⟩ inU9 4 (by decide) (fun _ _ _ => rfl) wl_147 c106 dX9_readRun_106 ?_
        refine x_iconst F (v := 1) dX9_readRun_109 (by decide) ?_
        refine x_iadd F dX9_readRun_110 ?_
        obtain ⟨M111, c111, h⟩ := bdS h
        refine x_putI F (ci := 9) (C := RX9) (T := TX9) (N := 12) rfl ⟨by decide, rfl⟩ inU9 tyX9_ok nmX9 4 (by decide) rfl rfl wl_147 c111 dX9_readRun_111 ?_
        refine x_goto F (tgt := 14) dX9_readRun_114 (by decide) ?_
        exact ih v1 v2 M111 o h hE
      have J73 : ∀ (v1 : Int32) (v2 : Int32) (v3 : Int32) (M : Mem), fX9_readRun_J73_14 N (fX9_readRun_L14 N v0 n) v0 v1 v2 v3 M = some o → X p l e ({ frames := 1, cells := 0, slots := 0, locals := 100 * 1 }) s m args below meth c (MQ below (Qm b D cy none Mf) args s 0 0 (fun q => b ≤ q)) 4 b D cy 0 0 M 73 [(0, .ref (b + v0)), (1, .int v1), (2, .int v2), (3, .int v3)] [] := by
        intro v1 v2 v3 M h
        unfold fX9_readRun_J73_14 at h
        refine x_iload_n F dX9_readRun_73 rfl 3 rfl ?_
        refine x_bipush F (v := 48) dX9_readRun_74 (by decide) ?_
        refine x_icmp_lt F (tgt := 117) dX9_readRun_76 (by decide) (fun c76 => ?_) (fun c76 => ?_)
        · rw [if_pos c76] at h
          obtain rfl := Option.some.inj h
          refine x_sub [0, 1, 2] rfl ?_
          exact hE _ _ _ rfl
        · rw [if_neg c76] at h
          refine x_iload_n F dX9_readRun_79 rfl 3 rfl ?_
          refine x_bipush F (v := 57) dX9_readRun_80 (by decide) ?_
          refine x_icmp_gt F (tgt := 117) dX9_readRun_82 (by decide) (fun c82 => ?_) (fun c82 => ?_)
          · rw [if_pos c82] at h
            obtain rfl := Option.some.inj h
            refine x_sub [0, 1, 2] rfl ?_
            exact hE _ _ _ rfl
          · rw [if_neg c82] at h
            refine x_iinc F (v := v2 + 1) (lv' := [(2, .int (v2 + 1)), (0, .ref (b + v0)), (1, .int v1), (3, .int v3)]) dX9_readRun_85 2 rfl rfl (by decide) rfl ?_
            refine x_aload_n F dX9_readRun_88 rfl 1 rfl ?_
            refine x_aload_n F dX9_readRun_89 rfl 1 rfl ?_
            obtain ⟨x90, c90, h⟩ := bdS h
            refine x_getI F (ci := 9) (C := RX9) (T := TX9) (N := 12) rfl ⟨by decide, rfl⟩ inU9 7 (by decide) (fun _ _ _ => rfl) wl_152 c90 dX9_readRun_90 ?_
            refine x_bipush F (v := 10) dX9_readRun_93 (by decide) ?_
            refine x_imul F dX9_readRun_95 ?_
            refine x_iload_n F dX9_readRun_96 rfl 3 rfl ?_
            refine x_iadd F dX9_readRun_97 ?_
            refine x_bipush F (v := 48) dX9_readRun_98 (by decide) ?_
            refine x_isub F dX9_readRun_100 ?_
            obtain ⟨M101, c101, h⟩ := bdS h
            refine x_putI F (ci := 9) (C := RX9) (T := TX9) (N := 12) rfl ⟨by decide, rfl⟩ inU9 tyX9_ok nmX9 7 (by decide) rfl rfl wl_152 c101 dX9_readRun_101 ?_
            refine x_sub [1, 2, 0] rfl ?_
            exact J104 v1 (v2 + 1) M101 h
      refine x_aload_n F dX9_readRun_14 rfl 0 rfl ?_
      obtain ⟨x15, c15, h⟩ := bdS h
      refine x_getI F (ci := 9) (C := RX9) (T := TX9) (N := 12) rfl ⟨by decide, rfl⟩ inU9 4 (by decide) (fun _ _ _ => rfl) wl_147 c15 dX9_readRun_15 ?_
      refine x_aload_n F dX9_readRun_18 rfl 0 rfl ?_
      obtain ⟨x19, c19, h⟩ := bdS h
      refine x_getI F (ci := 9) (C := RX9) (T := TX9) (N := 12) rfl ⟨by decide, rfl⟩ inU9 2 (by decide) (fun _ _ _ => rfl) wl_148 c19 dX9_readRun_19 ?_
      refine x_icmp_ge F (tgt := 117) dX9_readRun_22 (by decide) (fun c22 => ?_) (fun c22 => ?_)
      · rw [if_pos c22] at h
        obtain rfl := Option.some.inj h
        exact hE _ _ _ rfl
      · rw [if_neg c22] at h
        refine x_aload_n F dX9_readRun_25 rfl 0 rfl ?_
        obtain ⟨x26, c26, h⟩ := bdS h
        refine x_getR F (ci := 9) (C := RX9) (T := TX9) (N := 12) rfl ⟨by decide, rfl⟩ inU9 0 (by decide) (fun _ _ _ => rfl) wl_149 c26 dX9_readRun_26 ?_
        refine x_aload_n F dX9_readRun_29 rfl 0 rfl ?_
        obtain ⟨x30, c30, h⟩ := bdS h
        refine x_getI F (ci := 9) (C := RX9) (T := TX9) (N := 12) rfl ⟨by decide, rfl⟩ inU9 4 (by decide) (fun _ _ _ => rfl) wl_147 c30 dX9_readRun_30 ?_
        obtain ⟨x33, c33, h⟩ := bdS h
        refine x_aI F c33 dX9_readRun_33 ?_
        refine x_istore_n F (lv' := [(3, .int x33), (0, .ref (b + v0)), (1, .int v1), (2, .int v2)]) dX9_readRun_34 rfl (by decide) rfl ?_
        refine x_iload_n F dX9_readRun_35 rfl 0 rfl ?_
        refine x_bipush F (v := 97) dX9_readRun_36 (by decide) ?_
        refine x_icmp_lt F (tgt := 73) dX9_readRun_38 (by decide) (fun c38 => ?_) (fun c38 => ?_)
        · rw [if_pos c38] at h
          refine x_sub [1, 2, 3, 0] rfl ?_
          exact J73 v1 v2 x33 M h
        · rw [if_neg c38] at h
          refine x_iload_n F dX9_readRun_41 rfl 0 rfl ?_
          refine x_bipush F (v := 122) dX9_readRun_42 (by decide) ?_
          refine x_icmp_gt F (tgt := 73) dX9_readRun_44 (by decide) (fun c44 => ?_) (fun c44 => ?_)
          · rw [if_pos c44] at h
            refine x_sub [1, 2, 3, 0] rfl ?_
            exact J73 v1 v2 x33 M h
          · rw [if_neg c44] at h
            refine x_iinc F (v := v1 + 1) (lv' := [(1, .int (v1 + 1)), (3, .int x33), (0, .ref (b + v0)), (2, .int v2)]) dX9_readRun_47 2 rfl rfl (by decide) rfl ?_
            refine x_aload_n F dX9_readRun_50 rfl 2 rfl ?_
            refine x_aload_n F dX9_readRun_51 rfl 2 rfl ?_
            obtain ⟨x52, c52, h⟩ := bdS h
            refine x_getL F (ci := 9) (C := RX9) (T := TX9) (N := 12) rfl ⟨by decide, rfl⟩ inU9 8 (by decide) (fun _ _ _ => rfl) wl_151 c52 dX9_readRun_52 ?_
            refine x_ldc2 F (v := (32)) dX9_readRun_55 wl_153 ?_
            refine x_lmul F dX9_readRun_58 ?_
            refine x_iload_n F dX9_readRun_59 rfl 1 rfl ?_
            refine x_bipush F (v := 97) dX9_readRun_60 (by decide) ?_
            refine x_isub F dX9_readRun_62 ?_
            refine x_iconst F (v := 1) dX9_readRun_63 (by decide) ?_
            refine x_iadd F dX9_readRun_64 ?_
            refine x_i2l F dX9_readRun_65 ?_
            refine x_ladd F dX9_readRun_66 ?_
            obtain ⟨M67, c67, h⟩ := bdS h
            refine x_putL F (ci := 9) (C := RX9) (T := TX9) (N := 12) rfl ⟨by decide, rfl⟩ inU9 tyX9_ok nmX9 8 (by decide) rfl rfl wl_151 c67 dX9_readRun_67 ?_
            refine x_goto F (tgt := 104) dX9_readRun_70 (by decide) ?_
            refine x_sub [2, 0, 3] rfl ?_
            exact J104 (v1 + 1) v2 M67 h
  obtain ⟨o14, h14, h⟩ := bdS h
  refine x_sub [2, 1, 0] rfl ?_
  refine L14 v0 N 0 0 M11 o14 h14 (fun w1_14 w2_14 M14 e => ?_)
  · subst e
    dsimp only at h
    exact J117 v0 w1_14 w2_14 M14 h
theorem dX9_skipBlanks_0 : decode cX9_skipBlanks 0 = .ok (.aload_n 0, 1) := by decide +kernel
theorem dX9_skipBlanks_1 : decode cX9_skipBlanks 1 = .ok (.getfield 26, 3) := by decide +kernel
theorem dX9_skipBlanks_4 : decode cX9_skipBlanks 4 = .ok (.aload_n 0, 1) := by decide +kernel
theorem dX9_skipBlanks_5 : decode cX9_skipBlanks 5 = .ok (.getfield 19, 3) := by decide +kernel
theorem dX9_skipBlanks_8 : decode cX9_skipBlanks 8 = .ok (.if_icmp .ge 44, 3) := by decide +kernel
theorem dX9_skipBlanks_11 : decode cX9_skipBlanks 11 = .ok (.aload_n 0, 1) := by decide +kernel
theorem dX9_skipBlanks_12 : decode cX9_skipBlanks 12 = .ok (.getfield 9, 3) := by decide +kernel
theorem dX9_skipBlanks_15 : decode cX9_skipBlanks 15 = .ok (.aload_n 0, 1) := by decide +kernel
theorem dX9_skipBlanks_16 : decode cX9_skipBlanks 16 = .ok (.getfield 26, 3) := by decide +kernel
theorem dX9_skipBlanks_19 : decode cX9_skipBlanks 19 = .ok (.iaload, 1) := by decide +kernel
theorem dX9_skipBlanks_20 : decode cX9_skipBlanks 20 = .ok (.bipush 32, 2) := by decide +kernel
theorem dX9_skipBlanks_22 : decode cX9_skipBlanks 22 = .ok (.if_icmp .eq 17, 3) := by decide +kernel
theorem dX9_skipBlanks_25 : decode cX9_skipBlanks 25 = .ok (.aload_n 0, 1) := by decide +kernel
theorem dX9_skipBlanks_26 : decode cX9_skipBlanks 26 = .ok (.getfield 9, 3) := by decide +kernel
theorem dX9_skipBlanks_29 : decode cX9_skipBlanks 29 = .ok (.aload_n 0, 1) := by decide +kernel
theorem dX9_skipBlanks_30 : decode cX9_skipBlanks 30 = .ok (.getfield 26, 3) := by decide +kernel
theorem dX9_skipBlanks_33 : decode cX9_skipBlanks 33 = .ok (.iaload, 1) := by decide +kernel
theorem dX9_skipBlanks_34 : decode cX9_skipBlanks 34 = .ok (.bipush 10, 2) := by decide +kernel
theorem dX9_skipBlanks_36 : decode cX9_skipBlanks 36 = .ok (.if_icmp .ne 16, 3) := by decide +kernel
theorem dX9_skipBlanks_39 : decode cX9_skipBlanks 39 = .ok (.aload_n 0, 1) := by decide +kernel
theorem dX9_skipBlanks_40 : decode cX9_skipBlanks 40 = .ok (.dup, 1) := by decide +kernel
theorem dX9_skipBlanks_41 : decode cX9_skipBlanks 41 = .ok (.getfield 26, 3) := by decide +kernel
theorem dX9_skipBlanks_44 : decode cX9_skipBlanks 44 = .ok (.iconst 1, 1) := by decide +kernel
theorem dX9_skipBlanks_45 : decode cX9_skipBlanks 45 = .ok (.iadd, 1) := by decide +kernel
theorem dX9_skipBlanks_46 : decode cX9_skipBlanks 46 = .ok (.putfield 26, 3) := by decide +kernel
theorem dX9_skipBlanks_49 : decode cX9_skipBlanks 49 = .ok (.goto (-49), 3) := by decide +kernel
theorem dX9_skipBlanks_52 : decode cX9_skipBlanks 52 = .ok (.return_, 1) := by decide +kernel
def fX9_skipBlanks_J39_0 (N : Nat) (rc : Mem → Option (Mem)) (v0 : Nat) (M : Mem) : Option (Mem) := ((fI M 9 v0 4).bind fun x41 => ((pI M 9 v0 4 (x41 + 1)).bind fun M46 => rc M46))
def fX9_skipBlanks_L0 (N : Nat) (v0 : Nat) : Nat → Mem → Option (Mem)
  | 0, _ => none
  | n + 1, M => ((fI M 9 v0 4).bind fun x1 => ((fI M 9 v0 2).bind fun x5 => (if x5 ≤ x1 then some M else ((fR M 9 v0 0).bind fun x12 => ((fI M 9 v0 4).bind fun x16 => ((aI M x12 x16).bind fun x19 => (if x19 = 32 then fX9_skipBlanks_J39_0 N (fX9_skipBlanks_L0 N v0 n) v0 M else ((fR M 9 v0 0).bind fun x26 => ((fI M 9 v0 4).bind fun x30 => ((aI M x26 x30).bind fun x33 => (if x33 = 10 then fX9_skipBlanks_J39_0 N (fX9_skipBlanks_L0 N v0 n) v0 M else some M)))))))))))
def fX9_skipBlanks (N : Nat) (v0 : Nat) (M : Mem) : Option (Unit × Mem) := ((fX9_skipBlanks_L0 N v0 N M).bind fun o0 => some ((), o0))
set_option maxHeartbeats 4000000 in
set_option maxRecDepth 100000 in
theorem k_X9_skipBlanks (l : Launch) (b : Nat) (D : va_G) (cy : Nat → ClassId) (N : Nat) (v0 : Nat) (M : Mem) (r : Unit) (Mf : Mem) (h : fX9_skipBlanks N v0 M = some (r, Mf)) : Ct l yX9_skipBlanks cX9_skipBlanks 1 none 1 0 0 b D cy [.ref (b + v0)] M none Mf := by
  refine Ct_of (own := RX9) (by decide) rfl (Nat.le_of_ble_eq_true rfl) ?_
  intro p e s m args below meth c F hr hl hmn
  unfold fX9_skipBlanks at h
  show X p l e ({ frames := 1, cells := 0, slots := 0, locals := 100 * 1 }) s m args below meth c (MQ below (Qm b D cy none Mf) args s 0 0 (fun q => b ≤ q)) 1 b D cy 0 0 M 0 [(0, .ref (b + v0))] []
  have L0 : ∀ (v0 : Nat) (n : Nat) (M : Mem) (o : Mem), fX9_skipBlanks_L0 N v0 n M = some o → X p l e ({ frames := 1, cells := 0, slots := 0, locals := 100 * 1 }) s m args below meth c (MQ below (Qm b D cy none Mf) args s 0 0 (fun q => b ≤ q)) 1 b D cy 0 0 o 52 [] [] → X p l e ({ frames := 1, cells := 0, slots := 0, locals := 100 * 1 }) s m args below meth c (MQ below (Qm b D cy none Mf) args s 0 0 (fun q => b ≤ q)) 1 b D cy 0 0 M 0 [(0, .ref (b + v0))] [] := by
    intro v0 n
    induction n with
    | zero => intro M o h; exact absurd h (by rw [fX9_skipBlanks_L0]; exact fun z => by cases z)
    | succ n ih =>
      intro M o h hE
      rw [fX9_skipBlanks_L0] at h
      have J39 : ∀  (M : Mem), fX9_skipBlanks_J39_0 N (fX9_skipBlanks_L0 N v0 n) v0 M = some o → X p l e ({ frames := 1, cells := 0, slots := 0, locals := 100 * 1 }) s m args below meth c (MQ below (Qm b D cy none Mf) args s 0 0 (fun q => b ≤ q)) 1 b D cy 0 0 M 39 [(0, .ref (b + v0))] [] := by
        intro M h
        unfold fX9_skipBlanks_J39_0 at h
        refine x_aload_n F dX9_skipBlanks_39 rfl 0 rfl ?_
        refine x_dup F dX9_skipBlanks_40 rfl ?_
        obtain ⟨x41, c41, h⟩ := bdS h
        refine x_getI F (ci := 9) (C := RX9) (T := TX9) (N := 12) rfl ⟨by decide, rfl⟩ inU9 4 (by decide) (fun _ _ _ => rfl) wl_147 c41 dX9_skipBlanks_41 ?_
        refine x_iconst F (v := 1) dX9_skipBlanks_44 (by decide) ?_
        refine x_iadd F dX9_skipBlanks_45 ?_
        obtain ⟨M46, c46, h⟩ := bdS h
        refine x_putI F (ci := 9) (C := RX9) (T := TX9) (N := 12) rfl ⟨by decide, rfl⟩ inU9 tyX9_ok nmX9 4 (by decide) rfl rfl wl_147 c46 dX9_skipBlanks_46 ?_
        refine x_goto F (tgt := 0) dX9_skipBlanks_49 (by decide) ?_
        exact ih  M46 o h hE
      refine x_aload_n F dX9_skipBlanks_0 rfl 0 rfl ?_
      obtain ⟨x1, c1, h⟩ := bdS h
      refine x_getI F (ci := 9) (C := RX9) (T := TX9) (N := 12) rfl ⟨by decide, rfl⟩ inU9 4 (by decide) (fun _ _ _ => rfl) wl_147 c1 dX9_skipBlanks_1 ?_
      refine x_aload_n F dX9_skipBlanks_4 rfl 0 rfl ?_
      obtain ⟨x5, c5, h⟩ := bdS h
      refine x_getI F (ci := 9) (C := RX9) (T := TX9) (N := 12) rfl ⟨by decide, rfl⟩ inU9 2 (by decide) (fun _ _ _ => rfl) wl_148 c5 dX9_skipBlanks_5 ?_
      refine x_icmp_ge F (tgt := 52) dX9_skipBlanks_8 (by decide) (fun c8 => ?_) (fun c8 => ?_)
      · rw [if_pos c8] at h
        obtain rfl := Option.some.inj h
        refine x_sub [] rfl ?_
        exact hE
      · rw [if_neg c8] at h
        refine x_aload_n F dX9_skipBlanks_11 rfl 0 rfl ?_
        obtain ⟨x12, c12, h⟩ := bdS h
        refine x_getR F (ci := 9) (C := RX9) (T := TX9) (N := 12) rfl ⟨by decide, rfl⟩ inU9 0 (by decide) (fun _ _ _ => rfl) wl_149 c12 dX9_skipBlanks_12 ?_
        refine x_aload_n F dX9_skipBlanks_15 rfl 0 rfl ?_
        obtain ⟨x16, c16, h⟩ := bdS h
        refine x_getI F (ci := 9) (C := RX9) (T := TX9) (N := 12) rfl ⟨by decide, rfl⟩ inU9 4 (by decide) (fun _ _ _ => rfl) wl_147 c16 dX9_skipBlanks_16 ?_
        obtain ⟨x19, c19, h⟩ := bdS h
        refine x_aI F c19 dX9_skipBlanks_19 ?_
        refine x_bipush F (v := 32) dX9_skipBlanks_20 (by decide) ?_
        refine x_icmp_eq F (tgt := 39) dX9_skipBlanks_22 (by decide) (fun c22 => ?_) (fun c22 => ?_)
        · rw [if_pos c22] at h
          exact J39 M h
        · rw [if_neg c22] at h
          refine x_aload_n F dX9_skipBlanks_25 rfl 0 rfl ?_
          obtain ⟨x26, c26, h⟩ := bdS h
          refine x_getR F (ci := 9) (C := RX9) (T := TX9) (N := 12) rfl ⟨by decide, rfl⟩ inU9 0 (by decide) (fun _ _ _ => rfl) wl_149 c26 dX9_skipBlanks_26 ?_
          refine x_aload_n F dX9_skipBlanks_29 rfl 0 rfl ?_
          obtain ⟨x30, c30, h⟩ := bdS h
          refine x_getI F (ci := 9) (C := RX9) (T := TX9) (N := 12) rfl ⟨by decide, rfl⟩ inU9 4 (by decide) (fun _ _ _ => rfl) wl_147 c30 dX9_skipBlanks_30 ?_
          obtain ⟨x33, c33, h⟩ := bdS h
          refine x_aI F c33 dX9_skipBlanks_33 ?_
          refine x_bipush F (v := 10) dX9_skipBlanks_34 (by decide) ?_
          refine x_icmp_ne F (tgt := 52) dX9_skipBlanks_36 (by decide) (fun c36 => ?_) (fun c36 => ?_)
          · rw [if_neg c36] at h
            obtain rfl := Option.some.inj h
            refine x_sub [] rfl ?_
            exact hE
          · rw [if_pos c36] at h
            exact J39 M h
  obtain ⟨o0, h0, h⟩ := bdS h
  refine L0 v0 N M o0 h0 ?_
  obtain ⟨rfl, rfl⟩ := retS h
  exact x_vret F hr hl dX9_skipBlanks_52
theorem hd_X9_readRun : (yX9_readRun).cls = RX9 ∧ (yX9_readRun).cls ≠ "java/lang/invoke/MethodHandle" ∧ (yX9_readRun).cls ≠ "java/lang/invoke/VarHandle" ∧ (parseMethodDescriptor (yX9_readRun).desc).map (fun d => d.parameters.length) = some 0 := by decide +kernel
theorem hd_X9_findKeyword : (yX9_findKeyword).cls = RX9 ∧ (yX9_findKeyword).cls ≠ "java/lang/invoke/MethodHandle" ∧ (yX9_findKeyword).cls ≠ "java/lang/invoke/VarHandle" ∧ (parseMethodDescriptor (yX9_findKeyword).desc).map (fun d => d.parameters.length) = some 0 := by decide +kernel
theorem hd_X9_readMark : (yX9_readMark).cls = RX9 ∧ (yX9_readMark).cls ≠ "java/lang/invoke/MethodHandle" ∧ (yX9_readMark).cls ≠ "java/lang/invoke/VarHandle" ∧ (parseMethodDescriptor (yX9_readMark).desc).map (fun d => d.parameters.length) = some 0 := by decide +kernel
theorem hd_X9_skipBlanks : (yX9_skipBlanks).cls = RX9 ∧ (yX9_skipBlanks).cls ≠ "java/lang/invoke/MethodHandle" ∧ (yX9_skipBlanks).cls ≠ "java/lang/invoke/VarHandle" ∧ (parseMethodDescriptor (yX9_skipBlanks).desc).map (fun d => d.parameters.length) = some 0 := by decide +kernel
theorem dX9_advance_0 : decode cX9_advance 0 = .ok (.aload_n 0, 1) := by decide +kernel
theorem dX9_advance_1 : decode cX9_advance 1 = .ok (.invokevirtual 67, 3) := by decide +kernel
theorem dX9_advance_4 : decode cX9_advance 4 = .ok (.aload_n 0, 1) := by decide +kernel
theorem dX9_advance_5 : decode cX9_advance 5 = .ok (.iconst (-1), 1) := by decide +kernel
theorem dX9_advance_6 : decode cX9_advance 6 = .ok (.putfield 42, 3) := by decide +kernel
theorem dX9_advance_9 : decode cX9_advance 9 = .ok (.aload_n 0, 1) := by decide +kernel
theorem dX9_advance_10 : decode cX9_advance 10 = .ok (.getfield 26, 3) := by decide +kernel
theorem dX9_advance_13 : decode cX9_advance 13 = .ok (.aload_n 0, 1) := by decide +kernel
theorem dX9_advance_14 : decode cX9_advance 14 = .ok (.getfield 23, 3) := by decide +kernel
theorem dX9_advance_17 : decode cX9_advance 17 = .ok (.if_icmp .lt 30, 3) := by decide +kernel
theorem dX9_advance_20 : decode cX9_advance 20 = .ok (.aload_n 0, 1) := by decide +kernel
theorem dX9_advance_21 : decode cX9_advance 21 = .ok (.getfield 19, 3) := by decide +kernel
theorem dX9_advance_24 : decode cX9_advance 24 = .ok (.aload_n 0, 1) := by decide +kernel
theorem dX9_advance_25 : decode cX9_advance 25 = .ok (.getfield 23, 3) := by decide +kernel
theorem dX9_advance_28 : decode cX9_advance 28 = .ok (.if_icmp .le 19, 3) := by decide +kernel
theorem dX9_advance_31 : decode cX9_advance 31 = .ok (.aload_n 0, 1) := by decide +kernel
theorem dX9_advance_32 : decode cX9_advance 32 = .ok (.aload_n 0, 1) := by decide +kernel
theorem dX9_advance_33 : decode cX9_advance 33 = .ok (.getfield 23, 3) := by decide +kernel
theorem dX9_advance_36 : decode cX9_advance 36 = .ok (.putfield 32, 3) := by decide +kernel
theorem dX9_advance_39 : decode cX9_advance 39 = .ok (.aload_n 0, 1) := by decide +kernel
theorem dX9_advance_40 : decode cX9_advance 40 = .ok (.iconst 4, 1) := by decide +kernel
theorem dX9_advance_41 : decode cX9_advance 41 = .ok (.putfield 29, 3) := by decide +kernel
theorem dX9_advance_44 : decode cX9_advance 44 = .ok (.goto 72, 3) := by decide +kernel
theorem dX9_advance_47 : decode cX9_advance 47 = .ok (.aload_n 0, 1) := by decide +kernel
theorem dX9_advance_48 : decode cX9_advance 48 = .ok (.getfield 26, 3) := by decide +kernel
theorem dX9_advance_51 : decode cX9_advance 51 = .ok (.aload_n 0, 1) := by decide +kernel
theorem dX9_advance_52 : decode cX9_advance 52 = .ok (.getfield 19, 3) := by decide +kernel
theorem dX9_advance_55 : decode cX9_advance 55 = .ok (.if_icmp .lt 19, 3) := by decide +kernel
theorem dX9_advance_58 : decode cX9_advance 58 = .ok (.aload_n 0, 1) := by decide +kernel
theorem dX9_advance_59 : decode cX9_advance 59 = .ok (.aload_n 0, 1) := by decide +kernel
theorem dX9_advance_60 : decode cX9_advance 60 = .ok (.getfield 19, 3) := by decide +kernel
theorem dX9_advance_63 : decode cX9_advance 63 = .ok (.putfield 32, 3) := by decide +kernel
theorem dX9_advance_66 : decode cX9_advance 66 = .ok (.aload_n 0, 1) := by decide +kernel
theorem dX9_advance_67 : decode cX9_advance 67 = .ok (.iconst 0, 1) := by decide +kernel
theorem dX9_advance_68 : decode cX9_advance 68 = .ok (.putfield 29, 3) := by decide +kernel
theorem dX9_advance_71 : decode cX9_advance 71 = .ok (.goto 45, 3) := by decide +kernel
theorem dX9_advance_74 : decode cX9_advance 74 = .ok (.aload_n 0, 1) := by decide +kernel
theorem dX9_advance_75 : decode cX9_advance 75 = .ok (.aload_n 0, 1) := by decide +kernel
theorem dX9_advance_76 : decode cX9_advance 76 = .ok (.getfield 26, 3) := by decide +kernel
theorem dX9_advance_79 : decode cX9_advance 79 = .ok (.putfield 32, 3) := by decide +kernel
theorem dX9_advance_82 : decode cX9_advance 82 = .ok (.aload_n 0, 1) := by decide +kernel
theorem dX9_advance_83 : decode cX9_advance 83 = .ok (.invokevirtual 70, 3) := by decide +kernel
theorem dX9_advance_86 : decode cX9_advance 86 = .ok (.aload_n 0, 1) := by decide +kernel
theorem dX9_advance_87 : decode cX9_advance 87 = .ok (.getfield 26, 3) := by decide +kernel
theorem dX9_advance_90 : decode cX9_advance 90 = .ok (.aload_n 0, 1) := by decide +kernel
theorem dX9_advance_91 : decode cX9_advance 91 = .ok (.getfield 32, 3) := by decide +kernel
theorem dX9_advance_94 : decode cX9_advance 94 = .ok (.if_icmp .ne 10, 3) := by decide +kernel
theorem dX9_advance_97 : decode cX9_advance 97 = .ok (.aload_n 0, 1) := by decide +kernel
theorem dX9_advance_98 : decode cX9_advance 98 = .ok (.invokevirtual 73, 3) := by decide +kernel
theorem dX9_advance_101 : decode cX9_advance 101 = .ok (.goto 15, 3) := by decide +kernel
theorem dX9_advance_104 : decode cX9_advance 104 = .ok (.aload_n 0, 1) := by decide +kernel
theorem dX9_advance_105 : decode cX9_advance 105 = .ok (.getfield 29, 3) := by decide +kernel
theorem dX9_advance_108 : decode cX9_advance 108 = .ok (.iconst 1, 1) := by decide +kernel
theorem dX9_advance_109 : decode cX9_advance 109 = .ok (.if_icmp .ne 7, 3) := by decide +kernel
theorem dX9_advance_112 : decode cX9_advance 112 = .ok (.aload_n 0, 1) := by decide +kernel
theorem dX9_advance_113 : decode cX9_advance 113 = .ok (.invokevirtual 76, 3) := by decide +kernel
theorem dX9_advance_116 : decode cX9_advance 116 = .ok (.return_, 1) := by decide +kernel
def fX9_advance_J47 (N : Nat) (v0 : Nat) (M : Mem) : Option (Unit × Mem) := ((fI M 9 v0 4).bind fun x48 => ((fI M 9 v0 2).bind fun x52 => (if x48 < x52 then ((fI M 9 v0 4).bind fun x76 => ((pI M 9 v0 6 x76).bind fun M79 => (if mK M79 v0 = 10 then ((fX9_readRun N v0 M79).bind fun (u83, M83) => ((fI M83 9 v0 4).bind fun x87 => ((fI M83 9 v0 6).bind fun x91 => (if x87 = x91 then (if mK M83 v0 = 10 then ((fX9_readMark N v0 M83).bind fun (u98, M98) => some ((), M98)) else none) else ((fI M83 9 v0 5).bind fun x105 => (if x105 = 1 then (if mK M83 v0 = 10 then ((fX9_findKeyword N v0 M83).bind fun (u113, M113) => some ((), M113)) else none) else some ((), M83))))))) else none))) else ((fI M 9 v0 2).bind fun x60 => ((pI M 9 v0 6 x60).bind fun M63 => ((pI M63 9 v0 5 0).bind fun M68 => some ((), M68)))))))
def fX9_advance (N : Nat) (v0 : Nat) (M : Mem) : Option (Unit × Mem) := (if mK M v0 = 10 then ((fX9_skipBlanks N v0 M).bind fun (u1, M1) => ((pI M1 9 v0 9 ((-1))).bind fun M6 => ((fI M6 9 v0 4).bind fun x10 => ((fI M6 9 v0 3).bind fun x14 => (if x10 < x14 then fX9_advance_J47 N v0 M6 else ((fI M6 9 v0 2).bind fun x21 => ((fI M6 9 v0 3).bind fun x25 => (if x21 ≤ x25 then fX9_advance_J47 N v0 M6 else ((fI M6 9 v0 3).bind fun x33 => ((pI M6 9 v0 6 x33).bind fun M36 => ((pI M36 9 v0 5 4).bind fun M41 => some ((), M41)))))))))))) else none)
set_option maxHeartbeats 4000000 in
set_option maxRecDepth 100000 in
theorem k_X9_advance (l : Launch) (b : Nat) (D : va_G) (cy : Nat → ClassId) (N : Nat) (v0 : Nat) (M : Mem) (r : Unit) (Mf : Mem) (h : fX9_advance N v0 M = some (r, Mf)) : Ct l yX9_advance cX9_advance 1 none 2 0 0 b D cy [.ref (b + v0)] M none Mf := by
  refine Ct_of (own := RX9) (by decide) rfl (Nat.le_of_ble_eq_true rfl) ?_
  intro p e s m args below meth c F hr hl hmn
  unfold fX9_advance at h
  have J47 : ∀ (v0 : Nat) (M : Mem), fX9_advance_J47 N v0 M = some (r, Mf) → X p l e ({ frames := 2, cells := 0, slots := 0, locals := 100 * 2 }) s m args below meth c (MQ below (Qm b D cy none Mf) args s 0 0 (fun q => b ≤ q)) 1 b D cy 0 0 M 47 [(0, .ref (b + v0))] [] := by
    intro v0 M h
    unfold fX9_advance_J47 at h
    refine x_aload_n F dX9_advance_47 rfl 0 rfl ?_
    obtain ⟨x48, c48, h⟩ := bdS h
    refine x_getI F (ci := 9) (C := RX9) (T := TX9) (N := 12) rfl ⟨by decide, rfl⟩ inU9 4 (by decide) (fun _ _ _ => rfl) wl_147 c48 dX9_advance_48 ?_
    refine x_aload_n F dX9_advance_51 rfl 0 rfl ?_
    obtain ⟨x52, c52, h⟩ := bdS h
    refine x_getI F (ci := 9) (C := RX9) (T := TX9) (N := 12) rfl ⟨by decide, rfl⟩ inU9 2 (by decide) (fun _ _ _ => rfl) wl_148 c52 dX9_advance_52 ?_
    refine x_icmp_lt F (tgt := 74) dX9_advance_55 (by decide) (fun c55 => ?_) (fun c55 => ?_)
    · rw [if_pos c55] at h
      refine x_aload_n F dX9_advance_74 rfl 0 rfl ?_
      refine x_aload_n F dX9_advance_75 rfl 0 rfl ?_
      obtain ⟨x76, c76, h⟩ := bdS h
      refine x_getI F (ci := 9) (C := RX9) (T := TX9) (N := 12) rfl ⟨by decide, rfl⟩ inU9 4 (by decide) (fun _ _ _ => rfl) wl_147 c76 dX9_advance_76 ?_
      obtain ⟨M79, c79, h⟩ := bdS h
      refine x_putI F (ci := 9) (C := RX9) (T := TX9) (N := 12) rfl ⟨by decide, rfl⟩ inU9 tyX9_ok nmX9 6 (by decide) rfl rfl wl_160 c79 dX9_advance_79 ?_
      refine x_aload_n F dX9_advance_82 rfl 0 rfl ?_
      obtain ⟨k83, h⟩ := gdS h
      obtain ⟨⟨u83, M83⟩, c83, h⟩ := bdS h
      dsimp only at h
      refine x_callV F (As := []) (rest := []) (res := none) (ci := 9) (q := (RX9, TX9, 12)) rfl (by decide) k83 (k_X9_readRun l b D cy N v0 M79 _ _ c83) wl_165 wl_166 wl_167 wl_164 wl_150 hd_X9_readRun ⟨Nat.le_of_ble_eq_true rfl, Nat.le_of_ble_eq_true rfl⟩ ⟨Nat.le_refl _, Nat.le_refl _⟩ (Nat.le_of_ble_eq_true rfl) rfl dX9_advance_83 ?_
      refine x_aload_n F dX9_advance_86 rfl 0 rfl ?_
      obtain ⟨x87, c87, h⟩ := bdS h
      refine x_getI F (ci := 9) (C := RX9) (T := TX9) (N := 12) rfl ⟨by decide, rfl⟩ inU9 4 (by decide) (fun _ _ _ => rfl) wl_147 c87 dX9_advance_87 ?_
      refine x_aload_n F dX9_advance_90 rfl 0 rfl ?_
      obtain ⟨x91, c91, h⟩ := bdS h
      refine x_getI F (ci := 9) (C := RX9) (T := TX9) (N := 12) rfl ⟨by decide, rfl⟩ inU9 6 (by decide) (fun _ _ _ => rfl) wl_160 c91 dX9_advance_91 ?_
      refine x_icmp_ne F (tgt := 104) dX9_advance_94 (by decide) (fun c94 => ?_) (fun c94 => ?_)
      · rw [if_neg c94] at h
        refine x_aload_n F dX9_advance_104 rfl 0 rfl ?_
        obtain ⟨x105, c105, h⟩ := bdS h
        refine x_getI F (ci := 9) (C := RX9) (T := TX9) (N := 12) rfl ⟨by decide, rfl⟩ inU9 5 (by decide) (fun _ _ _ => rfl) wl_154 c105 dX9_advance_105 ?_
        refine x_iconst F (v := 1) dX9_advance_108 (by decide) ?_
        refine x_icmp_ne F (tgt := 116) dX9_advance_109 (by decide) (fun c109 => ?_) (fun c109 => ?_)
        · rw [if_neg c109] at h
          obtain ⟨rfl, rfl⟩ := retS h
          exact x_vret F hr hl dX9_advance_116
        · rw [if_pos c109] at h
          refine x_aload_n F dX9_advance_112 rfl 0 rfl ?_
          obtain ⟨k113, h⟩ := gdS h
          obtain ⟨⟨u113, M113⟩, c113, h⟩ := bdS h
          dsimp only at h
          refine x_callV F (As := []) (rest := []) (res := none) (ci := 9) (q := (RX9, TX9, 12)) rfl (by decide) k113 (k_X9_findKeyword l b D cy N v0 M83 _ _ c113) wl_171 wl_172 wl_173 wl_164 wl_156 hd_X9_findKeyword ⟨Nat.le_of_ble_eq_true rfl, Nat.le_of_ble_eq_true rfl⟩ ⟨Nat.le_refl _, Nat.le_refl _⟩ (Nat.le_of_ble_eq_true rfl) rfl dX9_advance_113 ?_
          obtain ⟨rfl, rfl⟩ := retS h
          exact x_vret F hr hl dX9_advance_116
      · rw [if_pos c94] at h
        refine x_aload_n F dX9_advance_97 rfl 0 rfl ?_
        obtain ⟨k98, h⟩ := gdS h
        obtain ⟨⟨u98, M98⟩, c98, h⟩ := bdS h
        dsimp only at h
        refine x_callV F (As := []) (rest := []) (res := none) (ci := 9) (q := (RX9, TX9, 12)) rfl (by decide) k98 (k_X9_readMark l b D cy N v0 M83 _ _ c98) wl_168 wl_169 wl_170 wl_164 wl_155 hd_X9_readMark ⟨Nat.le_of_ble_eq_true rfl, Nat.le_of_ble_eq_true rfl⟩ ⟨Nat.le_refl _, Nat.le_refl _⟩ (Nat.le_of_ble_eq_true rfl) rfl dX9_advance_98 ?_
        refine x_goto F (tgt := 116) dX9_advance_101 (by decide) ?_
        obtain ⟨rfl, rfl⟩ := retS h
        exact x_vret F hr hl dX9_advance_116
    · rw [if_neg c55] at h
      refine x_aload_n F dX9_advance_58 rfl 0 rfl ?_
      refine x_aload_n F dX9_advance_59 rfl 0 rfl ?_
      obtain ⟨x60, c60, h⟩ := bdS h
      refine x_getI F (ci := 9) (C := RX9) (T := TX9) (N := 12) rfl ⟨by decide, rfl⟩ inU9 2 (by decide) (fun _ _ _ => rfl) wl_148 c60 dX9_advance_60 ?_
      obtain ⟨M63, c63, h⟩ := bdS h
      refine x_putI F (ci := 9) (C := RX9) (T := TX9) (N := 12) rfl ⟨by decide, rfl⟩ inU9 tyX9_ok nmX9 6 (by decide) rfl rfl wl_160 c63 dX9_advance_63 ?_
      refine x_aload_n F dX9_advance_66 rfl 0 rfl ?_
      refine x_iconst F (v := 0) dX9_advance_67 (by decide) ?_
      obtain ⟨M68, c68, h⟩ := bdS h
      refine x_putI F (ci := 9) (C := RX9) (T := TX9) (N := 12) rfl ⟨by decide, rfl⟩ inU9 tyX9_ok nmX9 5 (by decide) rfl rfl wl_154 c68 dX9_advance_68 ?_
      refine x_goto F (tgt := 116) dX9_advance_71 (by decide) ?_
      obtain ⟨rfl, rfl⟩ := retS h
      exact x_vret F hr hl dX9_advance_116
  show X p l e ({ frames := 2, cells := 0, slots := 0, locals := 100 * 2 }) s m args below meth c (MQ below (Qm b D cy none Mf) args s 0 0 (fun q => b ≤ q)) 1 b D cy 0 0 M 0 [(0, .ref (b + v0))] []
  refine x_aload_n F dX9_advance_0 rfl 0 rfl ?_
  obtain ⟨k1, h⟩ := gdS h
  obtain ⟨⟨u1, M1⟩, c1, h⟩ := bdS h
  dsimp only at h
  refine x_callV F (As := []) (rest := []) (res := none) (ci := 9) (q := (RX9, TX9, 12)) rfl (by decide) k1 (k_X9_skipBlanks l b D cy N v0 M _ _ c1) wl_161 wl_162 wl_163 wl_164 wl_146 hd_X9_skipBlanks ⟨Nat.le_of_ble_eq_true rfl, Nat.le_of_ble_eq_true rfl⟩ ⟨Nat.le_refl _, Nat.le_refl _⟩ (Nat.le_of_ble_eq_true rfl) rfl dX9_advance_1 ?_
  refine x_aload_n F dX9_advance_4 rfl 0 rfl ?_
  refine x_iconst F (v := (-1)) dX9_advance_5 (by decide) ?_
  obtain ⟨M6, c6, h⟩ := bdS h
  refine x_putI F (ci := 9) (C := RX9) (T := TX9) (N := 12) rfl ⟨by decide, rfl⟩ inU9 tyX9_ok nmX9 9 (by decide) rfl rfl wl_158 c6 dX9_advance_6 ?_
  refine x_aload_n F dX9_advance_9 rfl 0 rfl ?_
  obtain ⟨x10, c10, h⟩ := bdS h
  refine x_getI F (ci := 9) (C := RX9) (T := TX9) (N := 12) rfl ⟨by decide, rfl⟩ inU9 4 (by decide) (fun _ _ _ => rfl) wl_147 c10 dX9_advance_10 ?_
  refine x_aload_n F dX9_advance_13 rfl 0 rfl ?_
  obtain ⟨x14, c14, h⟩ := bdS h
  refine x_getI F (ci := 9) (C := RX9) (T := TX9) (N := 12) rfl ⟨by decide, rfl⟩ inU9 3 (by decide) (fun _ _ _ => rfl) wl_159 c14 dX9_advance_14 ?_
  refine x_icmp_lt F (tgt := 47) dX9_advance_17 (by decide) (fun c17 => ?_) (fun c17 => ?_)
  · rw [if_pos c17] at h
    exact J47 v0 M6 h
  · rw [if_neg c17] at h
    refine x_aload_n F dX9_advance_20 rfl 0 rfl ?_
    obtain ⟨x21, c21, h⟩ := bdS h
    refine x_getI F (ci := 9) (C := RX9) (T := TX9) (N := 12) rfl ⟨by decide, rfl⟩ inU9 2 (by decide) (fun _ _ _ => rfl) wl_148 c21 dX9_advance_21 ?_
    refine x_aload_n F dX9_advance_24 rfl 0 rfl ?_
    obtain ⟨x25, c25, h⟩ := bdS h
    refine x_getI F (ci := 9) (C := RX9) (T := TX9) (N := 12) rfl ⟨by decide, rfl⟩ inU9 3 (by decide) (fun _ _ _ => rfl) wl_159 c25 dX9_advance_25 ?_
    refine x_icmp_le F (tgt := 47) dX9_advance_28 (by decide) (fun c28 => ?_) (fun c28 => ?_)
    · rw [if_pos c28] at h
      exact J47 v0 M6 h
    · rw [if_neg c28] at h
      refine x_aload_n F dX9_advance_31 rfl 0 rfl ?_
      refine x_aload_n F dX9_advance_32 rfl 0 rfl ?_
      obtain ⟨x33, c33, h⟩ := bdS h
      refine x_getI F (ci := 9) (C := RX9) (T := TX9) (N := 12) rfl ⟨by decide, rfl⟩ inU9 3 (by decide) (fun _ _ _ => rfl) wl_159 c33 dX9_advance_33 ?_
      obtain ⟨M36, c36, h⟩ := bdS h
      refine x_putI F (ci := 9) (C := RX9) (T := TX9) (N := 12) rfl ⟨by decide, rfl⟩ inU9 tyX9_ok nmX9 6 (by decide) rfl rfl wl_160 c36 dX9_advance_36 ?_
      refine x_aload_n F dX9_advance_39 rfl 0 rfl ?_
      refine x_iconst F (v := 4) dX9_advance_40 (by decide) ?_
      obtain ⟨M41, c41, h⟩ := bdS h
      refine x_putI F (ci := 9) (C := RX9) (T := TX9) (N := 12) rfl ⟨by decide, rfl⟩ inU9 tyX9_ok nmX9 5 (by decide) rfl rfl wl_154 c41 dX9_advance_41 ?_
      refine x_goto F (tgt := 116) dX9_advance_44 (by decide) ?_
      obtain ⟨rfl, rfl⟩ := retS h
      exact x_vret F hr hl dX9_advance_116
theorem dX9_fail_0 : decode cX9_fail 0 = .ok (.aload_n 0, 1) := by decide +kernel
theorem dX9_fail_1 : decode cX9_fail 1 = .ok (.getfield 45, 3) := by decide +kernel
theorem dX9_fail_4 : decode cX9_fail 4 = .ok (.ifCond .ne 16, 3) := by decide +kernel
theorem dX9_fail_7 : decode cX9_fail 7 = .ok (.aload_n 0, 1) := by decide +kernel
theorem dX9_fail_8 : decode cX9_fail 8 = .ok (.iload_n 1, 1) := by decide +kernel
theorem dX9_fail_9 : decode cX9_fail 9 = .ok (.putfield 45, 3) := by decide +kernel
theorem dX9_fail_12 : decode cX9_fail 12 = .ok (.aload_n 0, 1) := by decide +kernel
theorem dX9_fail_13 : decode cX9_fail 13 = .ok (.aload_n 0, 1) := by decide +kernel
theorem dX9_fail_14 : decode cX9_fail 14 = .ok (.getfield 32, 3) := by decide +kernel
theorem dX9_fail_17 : decode cX9_fail 17 = .ok (.putfield 48, 3) := by decide +kernel
theorem dX9_fail_20 : decode cX9_fail 20 = .ok (.return_, 1) := by decide +kernel
def fX9_fail (N : Nat) (v0 : Nat) (v1 : Int32) (M : Mem) : Option (Unit × Mem) := ((fI M 9 v0 10).bind fun x1 => (if x1 = 0 then ((pI M 9 v0 10 v1).bind fun M9 => ((fI M9 9 v0 6).bind fun x14 => ((pI M9 9 v0 11 x14).bind fun M17 => some ((), M17)))) else some ((), M)))
set_option maxHeartbeats 4000000 in
set_option maxRecDepth 100000 in
theorem k_X9_fail (l : Launch) (b : Nat) (D : va_G) (cy : Nat → ClassId) (N : Nat) (v0 : Nat) (v1 : Int32) (M : Mem) (r : Unit) (Mf : Mem) (h : fX9_fail N v0 v1 M = some (r, Mf)) : Ct l yX9_fail cX9_fail 2 none 1 0 0 b D cy [.ref (b + v0), .int v1] M none Mf := by
  refine Ct_of (own := RX9) (by decide) rfl (Nat.le_of_ble_eq_true rfl) ?_
  intro p e s m args below meth c F hr hl hmn
  unfold fX9_fail at h
  show X p l e ({ frames := 1, cells := 0, slots := 0, locals := 100 * 1 }) s m args below meth c (MQ below (Qm b D cy none Mf) args s 0 0 (fun q => b ≤ q)) 2 b D cy 0 0 M 0 [(0, .ref (b + v0)), (1, .int v1)] []
  refine x_aload_n F dX9_fail_0 rfl 0 rfl ?_
  obtain ⟨x1, c1, h⟩ := bdS h
  refine x_getI F (ci := 9) (C := RX9) (T := TX9) (N := 12) rfl ⟨by decide, rfl⟩ inU9 10 (by decide) (fun _ _ _ => rfl) wl_175 c1 dX9_fail_1 ?_
  refine x_if_ne F (tgt := 20) dX9_fail_4 (by decide) (fun c4 => ?_) (fun c4 => ?_)
  · rw [if_neg c4] at h
    obtain ⟨rfl, rfl⟩ := retS h
    exact x_vret F hr hl dX9_fail_20
  · rw [if_pos c4] at h
    refine x_aload_n F dX9_fail_7 rfl 0 rfl ?_
    refine x_iload_n F dX9_fail_8 rfl 1 rfl ?_
    obtain ⟨M9, c9, h⟩ := bdS h
    refine x_putI F (ci := 9) (C := RX9) (T := TX9) (N := 12) rfl ⟨by decide, rfl⟩ inU9 tyX9_ok nmX9 10 (by decide) rfl rfl wl_175 c9 dX9_fail_9 ?_
    refine x_aload_n F dX9_fail_12 rfl 0 rfl ?_
    refine x_aload_n F dX9_fail_13 rfl 0 rfl ?_
    obtain ⟨x14, c14, h⟩ := bdS h
    refine x_getI F (ci := 9) (C := RX9) (T := TX9) (N := 12) rfl ⟨by decide, rfl⟩ inU9 6 (by decide) (fun _ _ _ => rfl) wl_160 c14 dX9_fail_14 ?_
    obtain ⟨M17, c17, h⟩ := bdS h
    refine x_putI F (ci := 9) (C := RX9) (T := TX9) (N := 12) rfl ⟨by decide, rfl⟩ inU9 tyX9_ok nmX9 11 (by decide) rfl rfl wl_176 c17 dX9_fail_17 ?_
    obtain ⟨rfl, rfl⟩ := retS h
    exact x_vret F hr hl dX9_fail_20
theorem hd_X9_fail : (yX9_fail).cls = RX9 ∧ (yX9_fail).cls ≠ "java/lang/invoke/MethodHandle" ∧ (yX9_fail).cls ≠ "java/lang/invoke/VarHandle" ∧ (parseMethodDescriptor (yX9_fail).desc).map (fun d => d.parameters.length) = some 1 := by decide +kernel
theorem hd_X9_advance : (yX9_advance).cls = RX9 ∧ (yX9_advance).cls ≠ "java/lang/invoke/MethodHandle" ∧ (yX9_advance).cls ≠ "java/lang/invoke/VarHandle" ∧ (parseMethodDescriptor (yX9_advance).desc).map (fun d => d.parameters.length) = some 0 := by decide +kernel
theorem dX9_takeKeyword_0 : decode cX9_takeKeyword 0 = .ok (.aload_n 0, 1) := by decide +kernel
theorem dX9_takeKeyword_1 : decode cX9_takeKeyword 1 = .ok (.getfield 45, 3) := by decide +kernel
theorem dX9_takeKeyword_4 : decode cX9_takeKeyword 4 = .ok (.ifCond .ne 18, 3) := by decide +kernel
theorem dX9_takeKeyword_7 : decode cX9_takeKeyword 7 = .ok (.aload_n 0, 1) := by decide +kernel
theorem dX9_takeKeyword_8 : decode cX9_takeKeyword 8 = .ok (.getfield 42, 3) := by decide +kernel
theorem dX9_takeKeyword_11 : decode cX9_takeKeyword 11 = .ok (.iload_n 1, 1) := by decide +kernel
theorem dX9_takeKeyword_12 : decode cX9_takeKeyword 12 = .ok (.if_icmp .ne 10, 3) := by decide +kernel
theorem dX9_takeKeyword_15 : decode cX9_takeKeyword 15 = .ok (.aload_n 0, 1) := by decide +kernel
theorem dX9_takeKeyword_16 : decode cX9_takeKeyword 16 = .ok (.invokevirtual 64, 3) := by decide +kernel
theorem dX9_takeKeyword_19 : decode cX9_takeKeyword 19 = .ok (.goto 8, 3) := by decide +kernel
theorem dX9_takeKeyword_22 : decode cX9_takeKeyword 22 = .ok (.aload_n 0, 1) := by decide +kernel
theorem dX9_takeKeyword_23 : decode cX9_takeKeyword 23 = .ok (.iconst 1, 1) := by decide +kernel
theorem dX9_takeKeyword_24 : decode cX9_takeKeyword 24 = .ok (.invokevirtual 83, 3) := by decide +kernel
theorem dX9_takeKeyword_27 : decode cX9_takeKeyword 27 = .ok (.return_, 1) := by decide +kernel
def fX9_takeKeyword (N : Nat) (v0 : Nat) (v1 : Int32) (M : Mem) : Option (Unit × Mem) := ((fI M 9 v0 10).bind fun x1 => (if x1 = 0 then ((fI M 9 v0 9).bind fun x8 => (if x8 = v1 then (if mK M v0 = 10 then ((fX9_advance N v0 M).bind fun (u16, M16) => some ((), M16)) else none) else (if mK M v0 = 10 then ((fX9_fail N v0 1 M).bind fun (u24, M24) => some ((), M24)) else none))) else (if mK M v0 = 10 then ((fX9_fail N v0 1 M).bind fun (u24, M24) => some ((), M24)) else none)))
set_option maxHeartbeats 4000000 in
set_option maxRecDepth 100000 in
theorem k_X9_takeKeyword (l : Launch) (b : Nat) (D : va_G) (cy : Nat → ClassId) (N : Nat) (v0 : Nat) (v1 : Int32) (M : Mem) (r : Unit) (Mf : Mem) (h : fX9_takeKeyword N v0 v1 M = some (r, Mf)) : Ct l yX9_takeKeyword cX9_takeKeyword 2 none 3 0 0 b D cy [.ref (b + v0), .int v1] M none Mf := by
  refine Ct_of (own := RX9) (by decide) rfl (Nat.le_of_ble_eq_true rfl) ?_
  intro p e s m args below meth c F hr hl hmn
  unfold fX9_takeKeyword at h
  show X p l e ({ frames := 3, cells := 0, slots := 0, locals := 100 * 3 }) s m args below meth c (MQ below (Qm b D cy none Mf) args s 0 0 (fun q => b ≤ q)) 2 b D cy 0 0 M 0 [(0, .ref (b + v0)), (1, .int v1)] []
  refine x_aload_n F dX9_takeKeyword_0 rfl 0 rfl ?_
  obtain ⟨x1, c1, h⟩ := bdS h
  refine x_getI F (ci := 9) (C := RX9) (T := TX9) (N := 12) rfl ⟨by decide, rfl⟩ inU9 10 (by decide) (fun _ _ _ => rfl) wl_175 c1 dX9_takeKeyword_1 ?_
  refine x_if_ne F (tgt := 22) dX9_takeKeyword_4 (by decide) (fun c4 => ?_) (fun c4 => ?_)
  · rw [if_neg c4] at h
    refine x_aload_n F dX9_takeKeyword_22 rfl 0 rfl ?_
    refine x_iconst F (v := 1) dX9_takeKeyword_23 (by decide) ?_
    obtain ⟨k24, h⟩ := gdS h
    obtain ⟨⟨u24, M24⟩, c24, h⟩ := bdS h
    dsimp only at h
    refine x_callV F (As := [.int 1]) (rest := []) (res := none) (ci := 9) (q := (RX9, TX9, 12)) rfl (by decide) k24 (k_X9_fail l b D cy N v0 1 M _ _ c24) wl_184 wl_185 wl_186 wl_164 wl_182 hd_X9_fail ⟨Nat.le_of_ble_eq_true rfl, Nat.le_of_ble_eq_true rfl⟩ ⟨Nat.le_refl _, Nat.le_refl _⟩ (Nat.le_of_ble_eq_true rfl) rfl dX9_takeKeyword_24 ?_
    obtain ⟨rfl, rfl⟩ := retS h
    exact x_vret F hr hl dX9_takeKeyword_27
  · rw [if_pos c4] at h
    refine x_aload_n F dX9_takeKeyword_7 rfl 0 rfl ?_
    obtain ⟨x8, c8, h⟩ := bdS h
    refine x_getI F (ci := 9) (C := RX9) (T := TX9) (N := 12) rfl ⟨by decide, rfl⟩ inU9 9 (by decide) (fun _ _ _ => rfl) wl_158 c8 dX9_takeKeyword_8 ?_
    refine x_iload_n F dX9_takeKeyword_11 rfl 1 rfl ?_
    refine x_icmp_ne F (tgt := 22) dX9_takeKeyword_12 (by decide) (fun c12 => ?_) (fun c12 => ?_)
    · rw [if_neg c12] at h
      refine x_aload_n F dX9_takeKeyword_22 rfl 0 rfl ?_
      refine x_iconst F (v := 1) dX9_takeKeyword_23 (by decide) ?_
      obtain ⟨k24, h⟩ := gdS h
      obtain ⟨⟨u24, M24⟩, c24, h⟩ := bdS h
      dsimp only at h
      refine x_callV F (As := [.int 1]) (rest := []) (res := none) (ci := 9) (q := (RX9, TX9, 12)) rfl (by decide) k24 (k_X9_fail l b D cy N v0 1 M _ _ c24) wl_184 wl_185 wl_186 wl_164 wl_182 hd_X9_fail ⟨Nat.le_of_ble_eq_true rfl, Nat.le_of_ble_eq_true rfl⟩ ⟨Nat.le_refl _, Nat.le_refl _⟩ (Nat.le_of_ble_eq_true rfl) rfl dX9_takeKeyword_24 ?_
      obtain ⟨rfl, rfl⟩ := retS h
      exact x_vret F hr hl dX9_takeKeyword_27
    · rw [if_pos c12] at h
      refine x_aload_n F dX9_takeKeyword_15 rfl 0 rfl ?_
      obtain ⟨k16, h⟩ := gdS h
      obtain ⟨⟨u16, M16⟩, c16, h⟩ := bdS h
      dsimp only at h
      refine x_callV F (As := []) (rest := []) (res := none) (ci := 9) (q := (RX9, TX9, 12)) rfl (by decide) k16 (k_X9_advance l b D cy N v0 M _ _ c16) wl_177 wl_178 wl_179 wl_164 wl_174 hd_X9_advance ⟨Nat.le_of_ble_eq_true rfl, Nat.le_of_ble_eq_true rfl⟩ ⟨Nat.le_refl _, Nat.le_refl _⟩ (Nat.le_of_ble_eq_true rfl) rfl dX9_takeKeyword_16 ?_
      refine x_goto F (tgt := 27) dX9_takeKeyword_19 (by decide) ?_
      obtain ⟨rfl, rfl⟩ := retS h
      exact x_vret F hr hl dX9_takeKeyword_27
theorem dX8_indexOf_0 : decode cX8_indexOf 0 = .ok (.iconst 0, 1) := by decide +kernel
theorem dX8_indexOf_1 : decode cX8_indexOf 1 = .ok (.istore 4, 2) := by decide +kernel
theorem dX8_indexOf_3 : decode cX8_indexOf 3 = .ok (.iload 4, 2) := by decide +kernel
theorem dX8_indexOf_5 : decode cX8_indexOf 5 = .ok (.iload_n 1, 1) := by decide +kernel
theorem dX8_indexOf_6 : decode cX8_indexOf 6 = .ok (.if_icmp .ge 28, 3) := by decide +kernel
theorem dX8_indexOf_9 : decode cX8_indexOf 9 = .ok (.iload 4, 2) := by decide +kernel
theorem dX8_indexOf_11 : decode cX8_indexOf 11 = .ok (.aload_n 0, 1) := by decide +kernel
theorem dX8_indexOf_12 : decode cX8_indexOf 12 = .ok (.arraylength, 1) := by decide +kernel
theorem dX8_indexOf_13 : decode cX8_indexOf 13 = .ok (.if_icmp .ge 21, 3) := by decide +kernel
theorem dX8_indexOf_16 : decode cX8_indexOf 16 = .ok (.aload_n 0, 1) := by decide +kernel
theorem dX8_indexOf_17 : decode cX8_indexOf 17 = .ok (.iload 4, 2) := by decide +kernel
theorem dX8_indexOf_19 : decode cX8_indexOf 19 = .ok (.laload, 1) := by decide +kernel
theorem dX8_indexOf_20 : decode cX8_indexOf 20 = .ok (.lload_n 2, 1) := by decide +kernel
theorem dX8_indexOf_21 : decode cX8_indexOf 21 = .ok (.lcmp, 1) := by decide +kernel
theorem dX8_indexOf_22 : decode cX8_indexOf 22 = .ok (.ifCond .ne 6, 3) := by decide +kernel
theorem dX8_indexOf_25 : decode cX8_indexOf 25 = .ok (.iload 4, 2) := by decide +kernel
theorem dX8_indexOf_27 : decode cX8_indexOf 27 = .ok (.ireturn, 1) := by decide +kernel
theorem dX8_indexOf_28 : decode cX8_indexOf 28 = .ok (.iinc 4 1, 3) := by decide +kernel
theorem dX8_indexOf_31 : decode cX8_indexOf 31 = .ok (.goto (-28), 3) := by decide +kernel
theorem dX8_indexOf_34 : decode cX8_indexOf 34 = .ok (.iconst (-1), 1) := by decide +kernel
theorem dX8_indexOf_35 : decode cX8_indexOf 35 = .ok (.ireturn, 1) := by decide +kernel
def fX8_indexOf_L3 (N : Nat) (v0 : Nat) (v1 : Int32) (v2 : Int64) : Nat → Int32 → Mem → Option (Int32 × Mem)
  | 0, _, _ => none
  | n + 1, v4, M => (if v1 ≤ v4 then some ((-1), M) else ((nA M v0).bind fun x12 => (if x12 ≤ v4 then some ((-1), M) else ((aL M v0 v4).bind fun x19 => (if (lg_cmp x19 v2) = 0 then some (v4, M) else fX8_indexOf_L3 N v0 v1 v2 n (v4 + 1) M)))))
def fX8_indexOf (N : Nat) (v0 : Nat) (v1 : Int32) (v2 : Int64) (M : Mem) : Option (Int32 × Mem) := ((fX8_indexOf_L3 N v0 v1 v2 N 0 M).bind fun o3 => some o3)
set_option maxHeartbeats 4000000 in
set_option maxRecDepth 100000 in
theorem k_X8_indexOf (l : Launch) (b : Nat) (D : va_G) (cy : Nat → ClassId) (N : Nat) (v0 : Nat) (v1 : Int32) (v2 : Int64) (M : Mem) (r : Int32) (Mf : Mem) (h : fX8_indexOf N v0 v1 v2 M = some (r, Mf)) : Ct l yX8_indexOf cX8_indexOf 5 (some .int) 1 0 0 b D cy [.ref (b + v0), .int v1, .long v2] M (some (.int r)) Mf := by
  refine Ct_of (own := RX8) (by decide) rfl (Nat.le_of_ble_eq_true rfl) ?_
  intro p e s m args below meth c F hr hl hmn
  unfold fX8_indexOf at h
  show X p l e ({ frames := 1, cells := 0, slots := 0, locals := 100 * 1 }) s m args below meth c (MQ below (Qm b D cy (some (.int r)) Mf) args s 0 0 (fun q => b ≤ q)) 5 b D cy 0 0 M 0 [(0, .ref (b + v0)), (1, .int v1), (2, .long v2)] []
  refine x_iconst F (v := 0) dX8_indexOf_0 (by decide) ?_
  refine x_istore F (lv' := [(4, .int 0), (0, .ref (b + v0)), (1, .int v1), (2, .long v2)]) dX8_indexOf_1 (by decide) rfl ?_
  have L3 : ∀ (v0 : Nat) (v1 : Int32) (v2 : Int64) (n : Nat) (v4 : Int32) (M : Mem) (o : Int32 × Mem), fX8_indexOf_L3 N v0 v1 v2 n v4 M = some o → (∀ (r' : Int32) (M' : Mem), o = (r', M') → r' = r ∧ M' = Mf) → X p l e ({ frames := 1, cells := 0, slots := 0, locals := 100 * 1 }) s m args below meth c (MQ below (Qm b D cy (some (.int r)) Mf) args s 0 0 (fun q => b ≤ q)) 5 b D cy 0 0 M 3 [(0, .ref (b + v0)), (1, .int v1), (2, .long v2), (4, .int v4)] [] := by
    intro v0 v1 v2 n
    induction n with
    | zero => intro v4 M o h; exact absurd h (by rw [fX8_indexOf_L3]; exact fun z => by cases z)
    | succ n ih =>
      intro v4 M o h hR
      rw [fX8_indexOf_L3] at h
      refine x_iload F dX8_indexOf_3 3 rfl ?_
      refine x_iload_n F dX8_indexOf_5 rfl 1 rfl ?_
      refine x_icmp_ge F (tgt := 34) dX8_indexOf_6 (by decide) (fun c6 => ?_) (fun c6 => ?_)
      · rw [if_pos c6] at h
        refine x_iconst F (v := (-1)) dX8_indexOf_34 (by decide) ?_
        obtain rfl := Option.some.inj h
        obtain ⟨rfl, rfl⟩ := hR _ _ rfl
        exact x_iret F hr hl dX8_indexOf_35
      · rw [if_neg c6] at h
        refine x_iload F dX8_indexOf_9 3 rfl ?_
        refine x_aload_n F dX8_indexOf_11 rfl 0 rfl ?_
        obtain ⟨x12, c12, h⟩ := bdS h
        refine x_nA F c12 dX8_indexOf_12 ?_
        refine x_icmp_ge F (tgt := 34) dX8_indexOf_13 (by decide) (fun c13 => ?_) (fun c13 => ?_)
        · rw [if_pos c13] at h
          refine x_iconst F (v := (-1)) dX8_indexOf_34 (by decide) ?_
          obtain rfl := Option.some.inj h
          obtain ⟨rfl, rfl⟩ := hR _ _ rfl
          exact x_iret F hr hl dX8_indexOf_35
        · rw [if_neg c13] at h
          refine x_aload_n F dX8_indexOf_16 rfl 0 rfl ?_
          refine x_iload F dX8_indexOf_17 3 rfl ?_
          obtain ⟨x19, c19, h⟩ := bdS h
          refine x_aL F c19 dX8_indexOf_19 ?_
          refine x_lload_n F dX8_indexOf_20 rfl 2 rfl ?_
          refine x_lcmp F dX8_indexOf_21 ?_
          refine x_if_ne F (tgt := 28) dX8_indexOf_22 (by decide) (fun c22 => ?_) (fun c22 => ?_)
          · rw [if_neg c22] at h
            refine x_iinc F (v := v4 + 1) (lv' := [(4, .int (v4 + 1)), (0, .ref (b + v0)), (1, .int v1), (2, .long v2)]) dX8_indexOf_28 3 rfl rfl (by decide) rfl ?_
            refine x_goto F (tgt := 3) dX8_indexOf_31 (by decide) ?_
            refine x_sub [1, 2, 3, 0] rfl ?_
            exact ih (v4 + 1) M o h hR
          · rw [if_pos c22] at h
            refine x_iload F dX8_indexOf_25 3 rfl ?_
            obtain rfl := Option.some.inj h
            obtain ⟨rfl, rfl⟩ := hR _ _ rfl
            exact x_iret F hr hl dX8_indexOf_27
  obtain ⟨o3, h3, h⟩ := bdS h
  refine x_sub [1, 2, 3, 0] rfl ?_
  refine L3 v0 v1 v2 N 0 M o3 h3 (fun r' M' e => ?_)
  · subst e
    try dsimp only at h
    obtain ⟨rfl, rfl⟩ := retS h; exact ⟨rfl, rfl⟩
theorem dX9_atName_0 : decode cX9_atName 0 = .ok (.aload_n 0, 1) := by decide +kernel
theorem dX9_atName_1 : decode cX9_atName 1 = .ok (.getfield 29, 3) := by decide +kernel
theorem dX9_atName_4 : decode cX9_atName 4 = .ok (.iconst 1, 1) := by decide +kernel
theorem dX9_atName_5 : decode cX9_atName 5 = .ok (.if_icmp .ne 15, 3) := by decide +kernel
theorem dX9_atName_8 : decode cX9_atName 8 = .ok (.aload_n 0, 1) := by decide +kernel
theorem dX9_atName_9 : decode cX9_atName 9 = .ok (.getfield 42, 3) := by decide +kernel
theorem dX9_atName_12 : decode cX9_atName 12 = .ok (.iconst (-1), 1) := by decide +kernel
theorem dX9_atName_13 : decode cX9_atName 13 = .ok (.if_icmp .ne 7, 3) := by decide +kernel
theorem dX9_atName_16 : decode cX9_atName 16 = .ok (.iconst 1, 1) := by decide +kernel
theorem dX9_atName_17 : decode cX9_atName 17 = .ok (.goto 4, 3) := by decide +kernel
theorem dX9_atName_20 : decode cX9_atName 20 = .ok (.iconst 0, 1) := by decide +kernel
theorem dX9_atName_21 : decode cX9_atName 21 = .ok (.ireturn, 1) := by decide +kernel
def fX9_atName (N : Nat) (v0 : Nat) (M : Mem) : Option (Int32 × Mem) := ((fI M 9 v0 5).bind fun x1 => (if x1 = 1 then ((fI M 9 v0 9).bind fun x9 => (if x9 = ((-1)) then some (1, M) else some (0, M))) else some (0, M)))
set_option maxHeartbeats 4000000 in
set_option maxRecDepth 100000 in
theorem k_X9_atName (l : Launch) (b : Nat) (D : va_G) (cy : Nat → ClassId) (N : Nat) (v0 : Nat) (M : Mem) (r : Int32) (Mf : Mem) (h : fX9_atName N v0 M = some (r, Mf)) : Ct l yX9_atName cX9_atName 1 (some .boolean) 1 0 0 b D cy [.ref (b + v0)] M (some (.int r)) Mf := by
  refine Ct_of (own := RX9) (by decide) rfl (Nat.le_of_ble_eq_true rfl) ?_
  intro p e s m args below meth c F hr hl hmn
  unfold fX9_atName at h
  show X p l e ({ frames := 1, cells := 0, slots := 0, locals := 100 * 1 }) s m args below meth c (MQ below (Qm b D cy (some (.int r)) Mf) args s 0 0 (fun q => b ≤ q)) 1 b D cy 0 0 M 0 [(0, .ref (b + v0))] []
  refine x_aload_n F dX9_atName_0 rfl 0 rfl ?_
  obtain ⟨x1, c1, h⟩ := bdS h
  refine x_getI F (ci := 9) (C := RX9) (T := TX9) (N := 12) rfl ⟨by decide, rfl⟩ inU9 5 (by decide) (fun _ _ _ => rfl) wl_154 c1 dX9_atName_1 ?_
  refine x_iconst F (v := 1) dX9_atName_4 (by decide) ?_
  refine x_icmp_ne F (tgt := 20) dX9_atName_5 (by decide) (fun c5 => ?_) (fun c5 => ?_)
  · rw [if_neg c5] at h
    refine x_iconst F (v := 0) dX9_atName_20 (by decide) ?_
    obtain ⟨rfl, rfl⟩ := retS h
    exact x_zret F hr hl (by decide) dX9_atName_21
  · rw [if_pos c5] at h
    refine x_aload_n F dX9_atName_8 rfl 0 rfl ?_
    obtain ⟨x9, c9, h⟩ := bdS h
    refine x_getI F (ci := 9) (C := RX9) (T := TX9) (N := 12) rfl ⟨by decide, rfl⟩ inU9 9 (by decide) (fun _ _ _ => rfl) wl_158 c9 dX9_atName_9 ?_
    refine x_iconst F (v := (-1)) dX9_atName_12 (by decide) ?_
    refine x_icmp_ne F (tgt := 20) dX9_atName_13 (by decide) (fun c13 => ?_) (fun c13 => ?_)
    · rw [if_neg c13] at h
      refine x_iconst F (v := 0) dX9_atName_20 (by decide) ?_
      obtain ⟨rfl, rfl⟩ := retS h
      exact x_zret F hr hl (by decide) dX9_atName_21
    · rw [if_pos c13] at h
      refine x_iconst F (v := 1) dX9_atName_16 (by decide) ?_
      refine x_goto F (tgt := 21) dX9_atName_17 (by decide) ?_
      obtain ⟨rfl, rfl⟩ := retS h
      exact x_zret F hr hl (by decide) dX9_atName_21
theorem hd_X9_atName : (yX9_atName).cls = RX9 ∧ (yX9_atName).cls ≠ "java/lang/invoke/MethodHandle" ∧ (yX9_atName).cls ≠ "java/lang/invoke/VarHandle" ∧ (parseMethodDescriptor (yX9_atName).desc).map (fun d => d.parameters.length) = some 0 := by decide +kernel
theorem hd_X8_indexOf : (yX8_indexOf).cls = RX8 ∧ (yX8_indexOf).cls ≠ "java/lang/invoke/MethodHandle" ∧ (yX8_indexOf).cls ≠ "java/lang/invoke/VarHandle" ∧ (parseMethodDescriptor (yX8_indexOf).desc).map (fun d => d.parameters.length) = some 3 := by decide +kernel
theorem dX9_takeNameOf_0 : decode cX9_takeNameOf 0 = .ok (.aload_n 0, 1) := by decide +kernel
theorem dX9_takeNameOf_1 : decode cX9_takeNameOf 1 = .ok (.getfield 45, 3) := by decide +kernel
theorem dX9_takeNameOf_4 : decode cX9_takeNameOf 4 = .ok (.ifCond .ne 10, 3) := by decide +kernel
theorem dX9_takeNameOf_7 : decode cX9_takeNameOf 7 = .ok (.aload_n 0, 1) := by decide +kernel
theorem dX9_takeNameOf_8 : decode cX9_takeNameOf 8 = .ok (.invokevirtual 87, 3) := by decide +kernel
theorem dX9_takeNameOf_11 : decode cX9_takeNameOf 11 = .ok (.ifCond .ne 10, 3) := by decide +kernel
theorem dX9_takeNameOf_14 : decode cX9_takeNameOf 14 = .ok (.aload_n 0, 1) := by decide +kernel
theorem dX9_takeNameOf_15 : decode cX9_takeNameOf 15 = .ok (.iconst 1, 1) := by decide +kernel
theorem dX9_takeNameOf_16 : decode cX9_takeNameOf 16 = .ok (.invokevirtual 83, 3) := by decide +kernel
theorem dX9_takeNameOf_19 : decode cX9_takeNameOf 19 = .ok (.iconst (-1), 1) := by decide +kernel
theorem dX9_takeNameOf_20 : decode cX9_takeNameOf 20 = .ok (.ireturn, 1) := by decide +kernel
theorem dX9_takeNameOf_21 : decode cX9_takeNameOf 21 = .ok (.aload_n 1, 1) := by decide +kernel
theorem dX9_takeNameOf_22 : decode cX9_takeNameOf 22 = .ok (.iload_n 2, 1) := by decide +kernel
theorem dX9_takeNameOf_23 : decode cX9_takeNameOf 23 = .ok (.aload_n 0, 1) := by decide +kernel
theorem dX9_takeNameOf_24 : decode cX9_takeNameOf 24 = .ok (.getfield 38, 3) := by decide +kernel
theorem dX9_takeNameOf_27 : decode cX9_takeNameOf 27 = .ok (.invokestatic 91, 3) := by decide +kernel
theorem dX9_takeNameOf_30 : decode cX9_takeNameOf 30 = .ok (.istore_n 3, 1) := by decide +kernel
theorem dX9_takeNameOf_31 : decode cX9_takeNameOf 31 = .ok (.iload_n 3, 1) := by decide +kernel
theorem dX9_takeNameOf_32 : decode cX9_takeNameOf 32 = .ok (.iconst (-1), 1) := by decide +kernel
theorem dX9_takeNameOf_33 : decode cX9_takeNameOf 33 = .ok (.if_icmp .ne 11, 3) := by decide +kernel
theorem dX9_takeNameOf_36 : decode cX9_takeNameOf 36 = .ok (.aload_n 0, 1) := by decide +kernel
theorem dX9_takeNameOf_37 : decode cX9_takeNameOf 37 = .ok (.iconst 3, 1) := by decide +kernel
theorem dX9_takeNameOf_38 : decode cX9_takeNameOf 38 = .ok (.invokevirtual 83, 3) := by decide +kernel
theorem dX9_takeNameOf_41 : decode cX9_takeNameOf 41 = .ok (.goto 7, 3) := by decide +kernel
theorem dX9_takeNameOf_44 : decode cX9_takeNameOf 44 = .ok (.aload_n 0, 1) := by decide +kernel
theorem dX9_takeNameOf_45 : decode cX9_takeNameOf 45 = .ok (.invokevirtual 64, 3) := by decide +kernel
theorem dX9_takeNameOf_48 : decode cX9_takeNameOf 48 = .ok (.iload_n 3, 1) := by decide +kernel
theorem dX9_takeNameOf_49 : decode cX9_takeNameOf 49 = .ok (.ireturn, 1) := by decide +kernel
def fX9_takeNameOf (N : Nat) (v0 : Nat) (v1 : Nat) (v2 : Int32) (M : Mem) : Option (Int32 × Mem) := ((fI M 9 v0 10).bind fun x1 => (if x1 = 0 then (if mK M v0 = 10 then ((fX9_atName N v0 M).bind fun (x8, M8) => (if x8 = 0 then (if mK M8 v0 = 10 then ((fX9_fail N v0 1 M8).bind fun (u16, M16) => some ((-1), M16)) else none) else ((fL M8 9 v0 8).bind fun x24 => ((fX8_indexOf N v1 v2 x24 M8).bind fun (x27, M27) => (if x27 = ((-1)) then (if mK M27 v0 = 10 then ((fX9_fail N v0 3 M27).bind fun (u38, M38) => some (x27, M38)) else none) else (if mK M27 v0 = 10 then ((fX9_advance N v0 M27).bind fun (u45, M45) => some (x27, M45)) else none)))))) else none) else (if mK M v0 = 10 then ((fX9_fail N v0 1 M).bind fun (u16, M16) => some ((-1), M16)) else none)))
set_option maxHeartbeats 4000000 in
set_option maxRecDepth 100000 in
theorem k_X9_takeNameOf (l : Launch) (b : Nat) (D : va_G) (cy : Nat → ClassId) (N : Nat) (v0 : Nat) (v1 : Nat) (v2 : Int32) (M : Mem) (r : Int32) (Mf : Mem) (h : fX9_takeNameOf N v0 v1 v2 M = some (r, Mf)) : Ct l yX9_takeNameOf cX9_takeNameOf 4 (some .int) 3 0 0 b D cy [.ref (b + v0), .ref (b + v1), .int v2] M (some (.int r)) Mf := by
  refine Ct_of (own := RX9) (by decide) rfl (Nat.le_of_ble_eq_true rfl) ?_
  intro p e s m args below meth c F hr hl hmn
  unfold fX9_takeNameOf at h
  show X p l e ({ frames := 3, cells := 0, slots := 0, locals := 100 * 3 }) s m args below meth c (MQ below (Qm b D cy (some (.int r)) Mf) args s 0 0 (fun q => b ≤ q)) 4 b D cy 0 0 M 0 [(0, .ref (b + v0)), (1, .ref (b + v1)), (2, .int v2)] []
  refine x_aload_n F dX9_takeNameOf_0 rfl 0 rfl ?_
  obtain ⟨x1, c1, h⟩ := bdS h
  refine x_getI F (ci := 9) (C := RX9) (T := TX9) (N := 12) rfl ⟨by decide, rfl⟩ inU9 10 (by decide) (fun _ _ _ => rfl) wl_175 c1 dX9_takeNameOf_1 ?_
  refine x_if_ne F (tgt := 14) dX9_takeNameOf_4 (by decide) (fun c4 => ?_) (fun c4 => ?_)
  · rw [if_neg c4] at h
    refine x_aload_n F dX9_takeNameOf_14 rfl 0 rfl ?_
    refine x_iconst F (v := 1) dX9_takeNameOf_15 (by decide) ?_
    obtain ⟨k16, h⟩ := gdS h
    obtain ⟨⟨u16, M16⟩, c16, h⟩ := bdS h
    dsimp only at h
    refine x_callV F (As := [.int 1]) (rest := []) (res := none) (ci := 9) (q := (RX9, TX9, 12)) rfl (by decide) k16 (k_X9_fail l b D cy N v0 1 M _ _ c16) wl_184 wl_185 wl_186 wl_164 wl_182 hd_X9_fail ⟨Nat.le_of_ble_eq_true rfl, Nat.le_of_ble_eq_true rfl⟩ ⟨Nat.le_refl _, Nat.le_refl _⟩ (Nat.le_of_ble_eq_true rfl) rfl dX9_takeNameOf_16 ?_
    refine x_iconst F (v := (-1)) dX9_takeNameOf_19 (by decide) ?_
    obtain ⟨rfl, rfl⟩ := retS h
    exact x_iret F hr hl dX9_takeNameOf_20
  · rw [if_pos c4] at h
    refine x_aload_n F dX9_takeNameOf_7 rfl 0 rfl ?_
    obtain ⟨k8, h⟩ := gdS h
    obtain ⟨⟨x8, M8⟩, c8, h⟩ := bdS h
    dsimp only at h
    refine x_callV F (As := []) (rest := []) (res := (some (.int x8))) (ci := 9) (q := (RX9, TX9, 12)) rfl (by decide) k8 (k_X9_atName l b D cy N v0 M _ _ c8) wl_188 wl_189 wl_190 wl_164 wl_181 hd_X9_atName ⟨Nat.le_of_ble_eq_true rfl, Nat.le_of_ble_eq_true rfl⟩ ⟨Nat.le_refl _, Nat.le_refl _⟩ (Nat.le_of_ble_eq_true rfl) rfl dX9_takeNameOf_8 ?_
    refine x_if_ne F (tgt := 21) dX9_takeNameOf_11 (by decide) (fun c11 => ?_) (fun c11 => ?_)
    · rw [if_neg c11] at h
      refine x_aload_n F dX9_takeNameOf_21 rfl 1 rfl ?_
      refine x_iload_n F dX9_takeNameOf_22 rfl 2 rfl ?_
      refine x_aload_n F dX9_takeNameOf_23 rfl 0 rfl ?_
      obtain ⟨x24, c24, h⟩ := bdS h
      refine x_getL F (ci := 9) (C := RX9) (T := TX9) (N := 12) rfl ⟨by decide, rfl⟩ inU9 8 (by decide) (fun _ _ _ => rfl) wl_151 c24 dX9_takeNameOf_24 ?_
      obtain ⟨⟨x27, M27⟩, c27, h⟩ := bdS h
      dsimp only at h
      refine x_callS F (As := [.ref (b + v1), .int v2, .long x24]) (rest := []) (res := (some (.int x27))) (k_X8_indexOf l b D cy N v1 v2 x24 M8 _ _ c27) wl_191 wl_192 wl_75 wl_183 (hd_X8_indexOf).2 ⟨Nat.le_of_ble_eq_true rfl, Nat.le_of_ble_eq_true rfl⟩ ⟨Nat.le_refl _, Nat.le_refl _⟩ (Nat.le_of_ble_eq_true rfl) rfl dX9_takeNameOf_27 ?_
      refine x_istore_n F (lv' := [(3, .int x27), (0, .ref (b + v0)), (1, .ref (b + v1)), (2, .int v2)]) dX9_takeNameOf_30 rfl (by decide) rfl ?_
      refine x_iload_n F dX9_takeNameOf_31 rfl 0 rfl ?_
      refine x_iconst F (v := (-1)) dX9_takeNameOf_32 (by decide) ?_
      refine x_icmp_ne F (tgt := 44) dX9_takeNameOf_33 (by decide) (fun c33 => ?_) (fun c33 => ?_)
      · rw [if_neg c33] at h
        refine x_aload_n F dX9_takeNameOf_44 rfl 1 rfl ?_
        obtain ⟨k45, h⟩ := gdS h
        obtain ⟨⟨u45, M45⟩, c45, h⟩ := bdS h
        dsimp only at h
        refine x_callV F (As := []) (rest := []) (res := none) (ci := 9) (q := (RX9, TX9, 12)) rfl (by decide) k45 (k_X9_advance l b D cy N v0 M27 _ _ c45) wl_177 wl_178 wl_179 wl_164 wl_174 hd_X9_advance ⟨Nat.le_of_ble_eq_true rfl, Nat.le_of_ble_eq_true rfl⟩ ⟨Nat.le_refl _, Nat.le_refl _⟩ (Nat.le_of_ble_eq_true rfl) rfl dX9_takeNameOf_45 ?_
        refine x_iload_n F dX9_takeNameOf_48 rfl 0 rfl ?_
        obtain ⟨rfl, rfl⟩ := retS h
        exact x_iret F hr hl dX9_takeNameOf_49
      · rw [if_pos c33] at h
        refine x_aload_n F dX9_takeNameOf_36 rfl 1 rfl ?_
        refine x_iconst F (v := 3) dX9_takeNameOf_37 (by decide) ?_
        obtain ⟨k38, h⟩ := gdS h
        obtain ⟨⟨u38, M38⟩, c38, h⟩ := bdS h
        dsimp only at h
        refine x_callV F (As := [.int 3]) (rest := []) (res := none) (ci := 9) (q := (RX9, TX9, 12)) rfl (by decide) k38 (k_X9_fail l b D cy N v0 3 M27 _ _ c38) wl_184 wl_185 wl_186 wl_164 wl_182 hd_X9_fail ⟨Nat.le_of_ble_eq_true rfl, Nat.le_of_ble_eq_true rfl⟩ ⟨Nat.le_refl _, Nat.le_refl _⟩ (Nat.le_of_ble_eq_true rfl) rfl dX9_takeNameOf_38 ?_
        refine x_goto F (tgt := 48) dX9_takeNameOf_41 (by decide) ?_
        refine x_iload_n F dX9_takeNameOf_48 rfl 0 rfl ?_
        obtain ⟨rfl, rfl⟩ := retS h
        exact x_iret F hr hl dX9_takeNameOf_49
    · rw [if_pos c11] at h
      refine x_aload_n F dX9_takeNameOf_14 rfl 0 rfl ?_
      refine x_iconst F (v := 1) dX9_takeNameOf_15 (by decide) ?_
      obtain ⟨k16, h⟩ := gdS h
      obtain ⟨⟨u16, M16⟩, c16, h⟩ := bdS h
      dsimp only at h
      refine x_callV F (As := [.int 1]) (rest := []) (res := none) (ci := 9) (q := (RX9, TX9, 12)) rfl (by decide) k16 (k_X9_fail l b D cy N v0 1 M8 _ _ c16) wl_184 wl_185 wl_186 wl_164 wl_182 hd_X9_fail ⟨Nat.le_of_ble_eq_true rfl, Nat.le_of_ble_eq_true rfl⟩ ⟨Nat.le_refl _, Nat.le_refl _⟩ (Nat.le_of_ble_eq_true rfl) rfl dX9_takeNameOf_16 ?_
      refine x_iconst F (v := (-1)) dX9_takeNameOf_19 (by decide) ?_
      obtain ⟨rfl, rfl⟩ := retS h
      exact x_iret F hr hl dX9_takeNameOf_20
theorem dX9_takeNumber_0 : decode cX9_takeNumber 0 = .ok (.iconst 0, 1) := by decide +kernel
theorem dX9_takeNumber_1 : decode cX9_takeNumber 1 = .ok (.istore_n 3, 1) := by decide +kernel
theorem dX9_takeNumber_2 : decode cX9_takeNumber 2 = .ok (.aload_n 0, 1) := by decide +kernel
theorem dX9_takeNumber_3 : decode cX9_takeNumber 3 = .ok (.getfield 45, 3) := by decide +kernel
theorem dX9_takeNumber_6 : decode cX9_takeNumber 6 = .ok (.ifCond .ne 11, 3) := by decide +kernel
theorem dX9_takeNumber_9 : decode cX9_takeNumber 9 = .ok (.aload_n 0, 1) := by decide +kernel
theorem dX9_takeNumber_10 : decode cX9_takeNumber 10 = .ok (.getfield 29, 3) := by decide +kernel
theorem dX9_takeNumber_13 : decode cX9_takeNumber 13 = .ok (.iconst 2, 1) := by decide +kernel
theorem dX9_takeNumber_14 : decode cX9_takeNumber 14 = .ok (.if_icmp .eq 11, 3) := by decide +kernel
theorem dX9_takeNumber_17 : decode cX9_takeNumber 17 = .ok (.aload_n 0, 1) := by decide +kernel
theorem dX9_takeNumber_18 : decode cX9_takeNumber 18 = .ok (.iconst 1, 1) := by decide +kernel
theorem dX9_takeNumber_19 : decode cX9_takeNumber 19 = .ok (.invokevirtual 83, 3) := by decide +kernel
theorem dX9_takeNumber_22 : decode cX9_takeNumber 22 = .ok (.goto 36, 3) := by decide +kernel
theorem dX9_takeNumber_25 : decode cX9_takeNumber 25 = .ok (.aload_n 0, 1) := by decide +kernel
theorem dX9_takeNumber_26 : decode cX9_takeNumber 26 = .ok (.getfield 35, 3) := by decide +kernel
theorem dX9_takeNumber_29 : decode cX9_takeNumber 29 = .ok (.iload_n 1, 1) := by decide +kernel
theorem dX9_takeNumber_30 : decode cX9_takeNumber 30 = .ok (.if_icmp .lt 11, 3) := by decide +kernel
theorem dX9_takeNumber_33 : decode cX9_takeNumber 33 = .ok (.aload_n 0, 1) := by decide +kernel
theorem dX9_takeNumber_34 : decode cX9_takeNumber 34 = .ok (.getfield 35, 3) := by decide +kernel
theorem dX9_takeNumber_37 : decode cX9_takeNumber 37 = .ok (.iload_n 2, 1) := by decide +kernel
theorem dX9_takeNumber_38 : decode cX9_takeNumber 38 = .ok (.if_icmp .le 11, 3) := by decide +kernel
theorem dX9_takeNumber_41 : decode cX9_takeNumber 41 = .ok (.aload_n 0, 1) := by decide +kernel
theorem dX9_takeNumber_42 : decode cX9_takeNumber 42 = .ok (.iconst 2, 1) := by decide +kernel
theorem dX9_takeNumber_43 : decode cX9_takeNumber 43 = .ok (.invokevirtual 83, 3) := by decide +kernel
theorem dX9_takeNumber_46 : decode cX9_takeNumber 46 = .ok (.goto 12, 3) := by decide +kernel
theorem dX9_takeNumber_49 : decode cX9_takeNumber 49 = .ok (.aload_n 0, 1) := by decide +kernel
theorem dX9_takeNumber_50 : decode cX9_takeNumber 50 = .ok (.getfield 35, 3) := by decide +kernel
theorem dX9_takeNumber_53 : decode cX9_takeNumber 53 = .ok (.istore_n 3, 1) := by decide +kernel
theorem dX9_takeNumber_54 : decode cX9_takeNumber 54 = .ok (.aload_n 0, 1) := by decide +kernel
theorem dX9_takeNumber_55 : decode cX9_takeNumber 55 = .ok (.invokevirtual 64, 3) := by decide +kernel
theorem dX9_takeNumber_58 : decode cX9_takeNumber 58 = .ok (.iload_n 3, 1) := by decide +kernel
theorem dX9_takeNumber_59 : decode cX9_takeNumber 59 = .ok (.ireturn, 1) := by decide +kernel
def fX9_takeNumber (N : Nat) (v0 : Nat) (v1 : Int32) (v2 : Int32) (M : Mem) : Option (Int32 × Mem) := ((fI M 9 v0 10).bind fun x3 => (if x3 = 0 then ((fI M 9 v0 5).bind fun x10 => (if x10 = 2 then ((fI M 9 v0 7).bind fun x26 => (if x26 < v1 then (if mK M v0 = 10 then ((fX9_fail N v0 2 M).bind fun (u43, M43) => some (0, M43)) else none) else ((fI M 9 v0 7).bind fun x34 => (if x34 ≤ v2 then ((fI M 9 v0 7).bind fun x50 => (if mK M v0 = 10 then ((fX9_advance N v0 M).bind fun (u55, M55) => some (x50, M55)) else none)) else (if mK M v0 = 10 then ((fX9_fail N v0 2 M).bind fun (u43, M43) => some (0, M43)) else none))))) else (if mK M v0 = 10 then ((fX9_fail N v0 1 M).bind fun (u19, M19) => some (0, M19)) else none))) else (if mK M v0 = 10 then ((fX9_fail N v0 1 M).bind fun (u19, M19) => some (0, M19)) else none)))
set_option maxHeartbeats 4000000 in
set_option maxRecDepth 100000 in
theorem k_X9_takeNumber (l : Launch) (b : Nat) (D : va_G) (cy : Nat → ClassId) (N : Nat) (v0 : Nat) (v1 : Int32) (v2 : Int32) (M : Mem) (r : Int32) (Mf : Mem) (h : fX9_takeNumber N v0 v1 v2 M = some (r, Mf)) : Ct l yX9_takeNumber cX9_takeNumber 4 (some .int) 3 0 0 b D cy [.ref (b + v0), .int v1, .int v2] M (some (.int r)) Mf := by
  refine Ct_of (own := RX9) (by decide) rfl (Nat.le_of_ble_eq_true rfl) ?_
  intro p e s m args below meth c F hr hl hmn
  unfold fX9_takeNumber at h
  show X p l e ({ frames := 3, cells := 0, slots := 0, locals := 100 * 3 }) s m args below meth c (MQ below (Qm b D cy (some (.int r)) Mf) args s 0 0 (fun q => b ≤ q)) 4 b D cy 0 0 M 0 [(0, .ref (b + v0)), (1, .int v1), (2, .int v2)] []
  refine x_iconst F (v := 0) dX9_takeNumber_0 (by decide) ?_
  refine x_istore_n F (lv' := [(3, .int 0), (0, .ref (b + v0)), (1, .int v1), (2, .int v2)]) dX9_takeNumber_1 rfl (by decide) rfl ?_
  refine x_aload_n F dX9_takeNumber_2 rfl 1 rfl ?_
  obtain ⟨x3, c3, h⟩ := bdS h
  refine x_getI F (ci := 9) (C := RX9) (T := TX9) (N := 12) rfl ⟨by decide, rfl⟩ inU9 10 (by decide) (fun _ _ _ => rfl) wl_175 c3 dX9_takeNumber_3 ?_
  refine x_if_ne F (tgt := 17) dX9_takeNumber_6 (by decide) (fun c6 => ?_) (fun c6 => ?_)
  · rw [if_neg c6] at h
    refine x_aload_n F dX9_takeNumber_17 rfl 1 rfl ?_
    refine x_iconst F (v := 1) dX9_takeNumber_18 (by decide) ?_
    obtain ⟨k19, h⟩ := gdS h
    obtain ⟨⟨u19, M19⟩, c19, h⟩ := bdS h
    dsimp only at h
    refine x_callV F (As := [.int 1]) (rest := []) (res := none) (ci := 9) (q := (RX9, TX9, 12)) rfl (by decide) k19 (k_X9_fail l b D cy N v0 1 M _ _ c19) wl_184 wl_185 wl_186 wl_164 wl_182 hd_X9_fail ⟨Nat.le_of_ble_eq_true rfl, Nat.le_of_ble_eq_true rfl⟩ ⟨Nat.le_refl _, Nat.le_refl _⟩ (Nat.le_of_ble_eq_true rfl) rfl dX9_takeNumber_19 ?_
    refine x_goto F (tgt := 58) dX9_takeNumber_22 (by decide) ?_
    refine x_iload_n F dX9_takeNumber_58 rfl 0 rfl ?_
    obtain ⟨rfl, rfl⟩ := retS h
    exact x_iret F hr hl dX9_takeNumber_59
  · rw [if_pos c6] at h
    refine x_aload_n F dX9_takeNumber_9 rfl 1 rfl ?_
    obtain ⟨x10, c10, h⟩ := bdS h
    refine x_getI F (ci := 9) (C := RX9) (T := TX9) (N := 12) rfl ⟨by decide, rfl⟩ inU9 5 (by decide) (fun _ _ _ => rfl) wl_154 c10 dX9_takeNumber_10 ?_
    refine x_iconst F (v := 2) dX9_takeNumber_13 (by decide) ?_
    refine x_icmp_eq F (tgt := 25) dX9_takeNumber_14 (by decide) (fun c14 => ?_) (fun c14 => ?_)
    · rw [if_pos c14] at h
      refine x_aload_n F dX9_takeNumber_25 rfl 1 rfl ?_
      obtain ⟨x26, c26, h⟩ := bdS h
      refine x_getI F (ci := 9) (C := RX9) (T := TX9) (N := 12) rfl ⟨by decide, rfl⟩ inU9 7 (by decide) (fun _ _ _ => rfl) wl_152 c26 dX9_takeNumber_26 ?_
      refine x_iload_n F dX9_takeNumber_29 rfl 2 rfl ?_
      refine x_icmp_lt F (tgt := 41) dX9_takeNumber_30 (by decide) (fun c30 => ?_) (fun c30 => ?_)
      · rw [if_pos c30] at h
        refine x_aload_n F dX9_takeNumber_41 rfl 1 rfl ?_
        refine x_iconst F (v := 2) dX9_takeNumber_42 (by decide) ?_
        obtain ⟨k43, h⟩ := gdS h
        obtain ⟨⟨u43, M43⟩, c43, h⟩ := bdS h
        dsimp only at h
        refine x_callV F (As := [.int 2]) (rest := []) (res := none) (ci := 9) (q := (RX9, TX9, 12)) rfl (by decide) k43 (k_X9_fail l b D cy N v0 2 M _ _ c43) wl_184 wl_185 wl_186 wl_164 wl_182 hd_X9_fail ⟨Nat.le_of_ble_eq_true rfl, Nat.le_of_ble_eq_true rfl⟩ ⟨Nat.le_refl _, Nat.le_refl _⟩ (Nat.le_of_ble_eq_true rfl) rfl dX9_takeNumber_43 ?_
        refine x_goto F (tgt := 58) dX9_takeNumber_46 (by decide) ?_
        refine x_iload_n F dX9_takeNumber_58 rfl 0 rfl ?_
        obtain ⟨rfl, rfl⟩ := retS h
        exact x_iret F hr hl dX9_takeNumber_59
      · rw [if_neg c30] at h
        refine x_aload_n F dX9_takeNumber_33 rfl 1 rfl ?_
        obtain ⟨x34, c34, h⟩ := bdS h
        refine x_getI F (ci := 9) (C := RX9) (T := TX9) (N := 12) rfl ⟨by decide, rfl⟩ inU9 7 (by decide) (fun _ _ _ => rfl) wl_152 c34 dX9_takeNumber_34 ?_
        refine x_iload_n F dX9_takeNumber_37 rfl 3 rfl ?_
        refine x_icmp_le F (tgt := 49) dX9_takeNumber_38 (by decide) (fun c38 => ?_) (fun c38 => ?_)
        · rw [if_pos c38] at h
          refine x_aload_n F dX9_takeNumber_49 rfl 1 rfl ?_
          obtain ⟨x50, c50, h⟩ := bdS h
          refine x_getI F (ci := 9) (C := RX9) (T := TX9) (N := 12) rfl ⟨by decide, rfl⟩ inU9 7 (by decide) (fun _ _ _ => rfl) wl_152 c50 dX9_takeNumber_50 ?_
          refine x_istore_n F (lv' := [(3, .int x50), (0, .ref (b + v0)), (1, .int v1), (2, .int v2)]) dX9_takeNumber_53 rfl (by decide) rfl ?_
          refine x_aload_n F dX9_takeNumber_54 rfl 1 rfl ?_
          obtain ⟨k55, h⟩ := gdS h
          obtain ⟨⟨u55, M55⟩, c55, h⟩ := bdS h
          dsimp only at h
          refine x_callV F (As := []) (rest := []) (res := none) (ci := 9) (q := (RX9, TX9, 12)) rfl (by decide) k55 (k_X9_advance l b D cy N v0 M _ _ c55) wl_177 wl_178 wl_179 wl_164 wl_174 hd_X9_advance ⟨Nat.le_of_ble_eq_true rfl, Nat.le_of_ble_eq_true rfl⟩ ⟨Nat.le_refl _, Nat.le_refl _⟩ (Nat.le_of_ble_eq_true rfl) rfl dX9_takeNumber_55 ?_
          refine x_iload_n F dX9_takeNumber_58 rfl 0 rfl ?_
          obtain ⟨rfl, rfl⟩ := retS h
          exact x_iret F hr hl dX9_takeNumber_59
        · rw [if_neg c38] at h
          refine x_aload_n F dX9_takeNumber_41 rfl 1 rfl ?_
          refine x_iconst F (v := 2) dX9_takeNumber_42 (by decide) ?_
          obtain ⟨k43, h⟩ := gdS h
          obtain ⟨⟨u43, M43⟩, c43, h⟩ := bdS h
          dsimp only at h
          refine x_callV F (As := [.int 2]) (rest := []) (res := none) (ci := 9) (q := (RX9, TX9, 12)) rfl (by decide) k43 (k_X9_fail l b D cy N v0 2 M _ _ c43) wl_184 wl_185 wl_186 wl_164 wl_182 hd_X9_fail ⟨Nat.le_of_ble_eq_true rfl, Nat.le_of_ble_eq_true rfl⟩ ⟨Nat.le_refl _, Nat.le_refl _⟩ (Nat.le_of_ble_eq_true rfl) rfl dX9_takeNumber_43 ?_
          refine x_goto F (tgt := 58) dX9_takeNumber_46 (by decide) ?_
          refine x_iload_n F dX9_takeNumber_58 rfl 0 rfl ?_
          obtain ⟨rfl, rfl⟩ := retS h
          exact x_iret F hr hl dX9_takeNumber_59
    · rw [if_neg c14] at h
      refine x_aload_n F dX9_takeNumber_17 rfl 1 rfl ?_
      refine x_iconst F (v := 1) dX9_takeNumber_18 (by decide) ?_
      obtain ⟨k19, h⟩ := gdS h
      obtain ⟨⟨u19, M19⟩, c19, h⟩ := bdS h
      dsimp only at h
      refine x_callV F (As := [.int 1]) (rest := []) (res := none) (ci := 9) (q := (RX9, TX9, 12)) rfl (by decide) k19 (k_X9_fail l b D cy N v0 1 M _ _ c19) wl_184 wl_185 wl_186 wl_164 wl_182 hd_X9_fail ⟨Nat.le_of_ble_eq_true rfl, Nat.le_of_ble_eq_true rfl⟩ ⟨Nat.le_refl _, Nat.le_refl _⟩ (Nat.le_of_ble_eq_true rfl) rfl dX9_takeNumber_19 ?_
      refine x_goto F (tgt := 58) dX9_takeNumber_22 (by decide) ?_
      refine x_iload_n F dX9_takeNumber_58 rfl 0 rfl ?_
      obtain ⟨rfl, rfl⟩ := retS h
      exact x_iret F hr hl dX9_takeNumber_59
theorem hd_X9_takeNameOf : (yX9_takeNameOf).cls = RX9 ∧ (yX9_takeNameOf).cls ≠ "java/lang/invoke/MethodHandle" ∧ (yX9_takeNameOf).cls ≠ "java/lang/invoke/VarHandle" ∧ (parseMethodDescriptor (yX9_takeNameOf).desc).map (fun d => d.parameters.length) = some 2 := by decide +kernel
theorem hd_X9_takeNumber : (yX9_takeNumber).cls = RX9 ∧ (yX9_takeNumber).cls ≠ "java/lang/invoke/MethodHandle" ∧ (yX9_takeNumber).cls ≠ "java/lang/invoke/VarHandle" ∧ (parseMethodDescriptor (yX9_takeNumber).desc).map (fun d => d.parameters.length) = some 2 := by decide +kernel
theorem hd_X9_takeKeyword : (yX9_takeKeyword).cls = RX9 ∧ (yX9_takeKeyword).cls ≠ "java/lang/invoke/MethodHandle" ∧ (yX9_takeKeyword).cls ≠ "java/lang/invoke/VarHandle" ∧ (parseMethodDescriptor (yX9_takeKeyword).desc).map (fun d => d.parameters.length) = some 1 := by decide +kernel
theorem dX1_readAct_0 : decode cX1_readAct 0 = .ok (.aload_n 1, 1) := by decide +kernel
theorem dX1_readAct_1 : decode cX1_readAct 1 = .ok (.getfield 66, 3) := by decide +kernel
theorem dX1_readAct_4 : decode cX1_readAct 4 = .ok (.iconst (-1), 1) := by decide +kernel
theorem dX1_readAct_5 : decode cX1_readAct 5 = .ok (.if_icmp .ne 7, 3) := by decide +kernel
theorem dX1_readAct_8 : decode cX1_readAct 8 = .ok (.iconst 5, 1) := by decide +kernel
theorem dX1_readAct_9 : decode cX1_readAct 9 = .ok (.goto 7, 3) := by decide +kernel
theorem dX1_readAct_12 : decode cX1_readAct 12 = .ok (.aload_n 1, 1) := by decide +kernel
theorem dX1_readAct_13 : decode cX1_readAct 13 = .ok (.getfield 66, 3) := by decide +kernel
theorem dX1_readAct_16 : decode cX1_readAct 16 = .ok (.istore_n 2, 1) := by decide +kernel
theorem dX1_readAct_17 : decode cX1_readAct 17 = .ok (.iconst (-1), 1) := by decide +kernel
theorem dX1_readAct_18 : decode cX1_readAct 18 = .ok (.istore_n 3, 1) := by decide +kernel
theorem dX1_readAct_19 : decode cX1_readAct 19 = .ok (.iconst (-1), 1) := by decide +kernel
theorem dX1_readAct_20 : decode cX1_readAct 20 = .ok (.istore 4, 2) := by decide +kernel
theorem dX1_readAct_22 : decode cX1_readAct 22 = .ok (.iconst 0, 1) := by decide +kernel
theorem dX1_readAct_23 : decode cX1_readAct 23 = .ok (.istore 5, 2) := by decide +kernel
theorem dX1_readAct_25 : decode cX1_readAct 25 = .ok (.iconst 0, 1) := by decide +kernel
theorem dX1_readAct_26 : decode cX1_readAct 26 = .ok (.istore 6, 2) := by decide +kernel
theorem dX1_readAct_28 : decode cX1_readAct 28 = .ok (.iload_n 2, 1) := by decide +kernel
theorem dX1_readAct_29 : decode cX1_readAct 29 = .ok (.bipush 7, 2) := by decide +kernel
theorem dX1_readAct_31 : decode cX1_readAct 31 = .ok (.if_icmp .ne 19, 3) := by decide +kernel
theorem dX1_readAct_34 : decode cX1_readAct 34 = .ok (.aload_n 1, 1) := by decide +kernel
theorem dX1_readAct_35 : decode cX1_readAct 35 = .ok (.invokevirtual 96, 3) := by decide +kernel
theorem dX1_readAct_38 : decode cX1_readAct 38 = .ok (.aload_n 1, 1) := by decide +kernel
theorem dX1_readAct_39 : decode cX1_readAct 39 = .ok (.iconst 1, 1) := by decide +kernel
theorem dX1_readAct_40 : decode cX1_readAct 40 = .ok (.bipush 60, 2) := by decide +kernel
theorem dX1_readAct_42 : decode cX1_readAct 42 = .ok (.invokevirtual 99, 3) := by decide +kernel
theorem dX1_readAct_45 : decode cX1_readAct 45 = .ok (.istore 5, 2) := by decide +kernel
theorem dX1_readAct_47 : decode cX1_readAct 47 = .ok (.goto 86, 3) := by decide +kernel
theorem dX1_readAct_50 : decode cX1_readAct 50 = .ok (.iload_n 2, 1) := by decide +kernel
theorem dX1_readAct_51 : decode cX1_readAct 51 = .ok (.iconst 5, 1) := by decide +kernel
theorem dX1_readAct_52 : decode cX1_readAct 52 = .ok (.if_icmp .ne 30, 3) := by decide +kernel
theorem dX1_readAct_55 : decode cX1_readAct 55 = .ok (.aload_n 1, 1) := by decide +kernel
theorem dX1_readAct_56 : decode cX1_readAct 56 = .ok (.aload_n 0, 1) := by decide +kernel
theorem dX1_readAct_57 : decode cX1_readAct 57 = .ok (.getfield 43, 3) := by decide +kernel
theorem dX1_readAct_60 : decode cX1_readAct 60 = .ok (.getfield 76, 3) := by decide +kernel
theorem dX1_readAct_63 : decode cX1_readAct 63 = .ok (.aload_n 0, 1) := by decide +kernel
theorem dX1_readAct_64 : decode cX1_readAct 64 = .ok (.getfield 43, 3) := by decide +kernel
theorem dX1_readAct_67 : decode cX1_readAct 67 = .ok (.getfield 82, 3) := by decide +kernel
theorem dX1_readAct_70 : decode cX1_readAct 70 = .ok (.invokevirtual 103, 3) := by decide +kernel
theorem dX1_readAct_73 : decode cX1_readAct 73 = .ok (.istore_n 3, 1) := by decide +kernel
theorem dX1_readAct_74 : decode cX1_readAct 74 = .ok (.aload_n 1, 1) := by decide +kernel
theorem dX1_readAct_75 : decode cX1_readAct 75 = .ok (.iconst 5, 1) := by decide +kernel
theorem dX1_readAct_76 : decode cX1_readAct 76 = .ok (.invokevirtual 107, 3) := by decide +kernel
theorem dX1_readAct_79 : decode cX1_readAct 79 = .ok (.goto 7, 3) := by decide +kernel
theorem dX1_readAct_82 : decode cX1_readAct 82 = .ok (.aload_n 1, 1) := by decide +kernel
theorem dX1_readAct_83 : decode cX1_readAct 83 = .ok (.invokevirtual 96, 3) := by decide +kernel
theorem dX1_readAct_86 : decode cX1_readAct 86 = .ok (.aload_n 1, 1) := by decide +kernel
theorem dX1_readAct_87 : decode cX1_readAct 87 = .ok (.aload_n 0, 1) := by decide +kernel
theorem dX1_readAct_88 : decode cX1_readAct 88 = .ok (.getfield 43, 3) := by decide +kernel
theorem dX1_readAct_91 : decode cX1_readAct 91 = .ok (.getfield 110, 3) := by decide +kernel
theorem dX1_readAct_94 : decode cX1_readAct 94 = .ok (.aload_n 0, 1) := by decide +kernel
theorem dX1_readAct_95 : decode cX1_readAct 95 = .ok (.getfield 43, 3) := by decide +kernel
theorem dX1_readAct_98 : decode cX1_readAct 98 = .ok (.getfield 113, 3) := by decide +kernel
theorem dX1_readAct_101 : decode cX1_readAct 101 = .ok (.invokevirtual 103, 3) := by decide +kernel
theorem dX1_readAct_104 : decode cX1_readAct 104 = .ok (.istore 4, 2) := by decide +kernel
theorem dX1_readAct_106 : decode cX1_readAct 106 = .ok (.aload_n 1, 1) := by decide +kernel
theorem dX1_readAct_107 : decode cX1_readAct 107 = .ok (.iconst 0, 1) := by decide +kernel
theorem dX1_readAct_108 : decode cX1_readAct 108 = .ok (.bipush 11, 2) := by decide +kernel
theorem dX1_readAct_110 : decode cX1_readAct 110 = .ok (.invokevirtual 99, 3) := by decide +kernel
theorem dX1_readAct_113 : decode cX1_readAct 113 = .ok (.istore 5, 2) := by decide +kernel
theorem dX1_readAct_115 : decode cX1_readAct 115 = .ok (.iload_n 2, 1) := by decide +kernel
theorem dX1_readAct_116 : decode cX1_readAct 116 = .ok (.iconst 5, 1) := by decide +kernel
theorem dX1_readAct_117 : decode cX1_readAct 117 = .ok (.if_icmp .ne 13, 3) := by decide +kernel
theorem dX1_readAct_120 : decode cX1_readAct 120 = .ok (.aload_n 1, 1) := by decide +kernel
theorem dX1_readAct_121 : decode cX1_readAct 121 = .ok (.iconst 0, 1) := by decide +kernel
theorem dX1_readAct_122 : decode cX1_readAct 122 = .ok (.bipush 9, 2) := by decide +kernel
theorem dX1_readAct_124 : decode cX1_readAct 124 = .ok (.invokevirtual 99, 3) := by decide +kernel
theorem dX1_readAct_127 : decode cX1_readAct 127 = .ok (.goto 4, 3) := by decide +kernel
theorem dX1_readAct_130 : decode cX1_readAct 130 = .ok (.iconst 0, 1) := by decide +kernel
theorem dX1_readAct_131 : decode cX1_readAct 131 = .ok (.istore 6, 2) := by decide +kernel
theorem dX1_readAct_133 : decode cX1_readAct 133 = .ok (.aload_n 1, 1) := by decide +kernel
theorem dX1_readAct_134 : decode cX1_readAct 134 = .ok (.getfield 53, 3) := by decide +kernel
theorem dX1_readAct_137 : decode cX1_readAct 137 = .ok (.ifCond .ne 66, 3) := by decide +kernel
theorem dX1_readAct_140 : decode cX1_readAct 140 = .ok (.aload_n 0, 1) := by decide +kernel
theorem dX1_readAct_141 : decode cX1_readAct 141 = .ok (.getfield 11, 3) := by decide +kernel
theorem dX1_readAct_144 : decode cX1_readAct 144 = .ok (.aload_n 0, 1) := by decide +kernel
theorem dX1_readAct_145 : decode cX1_readAct 145 = .ok (.getfield 27, 3) := by decide +kernel
theorem dX1_readAct_148 : decode cX1_readAct 148 = .ok (.iload_n 2, 1) := by decide +kernel
theorem dX1_readAct_149 : decode cX1_readAct 149 = .ok (.iastore, 1) := by decide +kernel
theorem dX1_readAct_150 : decode cX1_readAct 150 = .ok (.aload_n 0, 1) := by decide +kernel
theorem dX1_readAct_151 : decode cX1_readAct 151 = .ok (.getfield 15, 3) := by decide +kernel
theorem dX1_readAct_154 : decode cX1_readAct 154 = .ok (.aload_n 0, 1) := by decide +kernel
theorem dX1_readAct_155 : decode cX1_readAct 155 = .ok (.getfield 27, 3) := by decide +kernel
theorem dX1_readAct_158 : decode cX1_readAct 158 = .ok (.iload_n 3, 1) := by decide +kernel
theorem dX1_readAct_159 : decode cX1_readAct 159 = .ok (.iastore, 1) := by decide +kernel
theorem dX1_readAct_160 : decode cX1_readAct 160 = .ok (.aload_n 0, 1) := by decide +kernel
theorem dX1_readAct_161 : decode cX1_readAct 161 = .ok (.getfield 18, 3) := by decide +kernel
theorem dX1_readAct_164 : decode cX1_readAct 164 = .ok (.aload_n 0, 1) := by decide +kernel
theorem dX1_readAct_165 : decode cX1_readAct 165 = .ok (.getfield 27, 3) := by decide +kernel
theorem dX1_readAct_168 : decode cX1_readAct 168 = .ok (.iload 4, 2) := by decide +kernel
theorem dX1_readAct_170 : decode cX1_readAct 170 = .ok (.iastore, 1) := by decide +kernel
theorem dX1_readAct_171 : decode cX1_readAct 171 = .ok (.aload_n 0, 1) := by decide +kernel
theorem dX1_readAct_172 : decode cX1_readAct 172 = .ok (.getfield 21, 3) := by decide +kernel
theorem dX1_readAct_175 : decode cX1_readAct 175 = .ok (.aload_n 0, 1) := by decide +kernel
theorem dX1_readAct_176 : decode cX1_readAct 176 = .ok (.getfield 27, 3) := by decide +kernel
theorem dX1_readAct_179 : decode cX1_readAct 179 = .ok (.iload 5, 2) := by decide +kernel
theorem dX1_readAct_181 : decode cX1_readAct 181 = .ok (.iastore, 1) := by decide +kernel
theorem dX1_readAct_182 : decode cX1_readAct 182 = .ok (.aload_n 0, 1) := by decide +kernel
theorem dX1_readAct_183 : decode cX1_readAct 183 = .ok (.getfield 24, 3) := by decide +kernel
theorem dX1_readAct_186 : decode cX1_readAct 186 = .ok (.aload_n 0, 1) := by decide +kernel
theorem dX1_readAct_187 : decode cX1_readAct 187 = .ok (.getfield 27, 3) := by decide +kernel
theorem dX1_readAct_190 : decode cX1_readAct 190 = .ok (.iload 6, 2) := by decide +kernel
theorem dX1_readAct_192 : decode cX1_readAct 192 = .ok (.iastore, 1) := by decide +kernel
theorem dX1_readAct_193 : decode cX1_readAct 193 = .ok (.aload_n 0, 1) := by decide +kernel
theorem dX1_readAct_194 : decode cX1_readAct 194 = .ok (.dup, 1) := by decide +kernel
theorem dX1_readAct_195 : decode cX1_readAct 195 = .ok (.getfield 27, 3) := by decide +kernel
theorem dX1_readAct_198 : decode cX1_readAct 198 = .ok (.iconst 1, 1) := by decide +kernel
theorem dX1_readAct_199 : decode cX1_readAct 199 = .ok (.iadd, 1) := by decide +kernel
theorem dX1_readAct_200 : decode cX1_readAct 200 = .ok (.putfield 27, 3) := by decide +kernel
theorem dX1_readAct_203 : decode cX1_readAct 203 = .ok (.return_, 1) := by decide +kernel
def fX1_readAct_J133 (N : Nat) (v0 : Nat) (v1 : Nat) (v2 : Int32) (v3 : Int32) (v4 : Int32) (v5 : Int32) (v6 : Int32) (M : Mem) : Option (Unit × Mem) := ((fI M 9 v1 10).bind fun x134 => (if x134 = 0 then ((fR M 1 v0 1).bind fun x141 => ((fI M 1 v0 6).bind fun x145 => ((tI M x141 x145 v2).bind fun M149 => ((fR M149 1 v0 2).bind fun x151 => ((fI M149 1 v0 6).bind fun x155 => ((tI M149 x151 x155 v3).bind fun M159 => ((fR M159 1 v0 3).bind fun x161 => ((fI M159 1 v0 6).bind fun x165 => ((tI M159 x161 x165 v4).bind fun M170 => ((fR M170 1 v0 4).bind fun x172 => ((fI M170 1 v0 6).bind fun x176 => ((tI M170 x172 x176 v5).bind fun M181 => ((fR M181 1 v0 5).bind fun x183 => ((fI M181 1 v0 6).bind fun x187 => ((tI M181 x183 x187 v6).bind fun M192 => ((fI M192 1 v0 6).bind fun x195 => ((pI M192 1 v0 6 (x195 + 1)).bind fun M200 => some ((), M200)))))))))))))))))) else some ((), M)))
def fX1_readAct_J131 (N : Nat) (v0 : Nat) (v1 : Nat) (v2 : Int32) (v3 : Int32) (v4 : Int32) (v5 : Int32) (s0 : Int32) (M : Mem) : Option (Unit × Mem) := fX1_readAct_J133 N v0 v1 v2 v3 v4 v5 s0 M
def fX1_readAct_J86 (N : Nat) (v0 : Nat) (v1 : Nat) (v2 : Int32) (v3 : Int32) (M : Mem) : Option (Unit × Mem) := ((fR M 1 v0 0).bind fun x88 => ((fR M 8 x88 1).bind fun x91 => ((fR M 1 v0 0).bind fun x95 => ((fI M 8 x95 0).bind fun x98 => (if mK M v1 = 10 then ((fX9_takeNameOf N v1 x91 x98 M).bind fun (x101, M101) => (if mK M101 v1 = 10 then ((fX9_takeNumber N v1 0 11 M101).bind fun (x110, M110) => (if v2 = 5 then (if mK M110 v1 = 10 then ((fX9_takeNumber N v1 0 9 M110).bind fun (x124, M124) => fX1_readAct_J131 N v0 v1 v2 v3 x101 x110 x124 M124) else none) else fX1_readAct_J131 N v0 v1 v2 v3 x101 x110 0 M110)) else none)) else none)))))
def fX1_readAct_J16 (N : Nat) (v0 : Nat) (v1 : Nat) (s0 : Int32) (M : Mem) : Option (Unit × Mem) := (if s0 = 7 then (if mK M v1 = 10 then ((fX9_advance N v1 M).bind fun (u35, M35) => (if mK M35 v1 = 10 then ((fX9_takeNumber N v1 1 60 M35).bind fun (x42, M42) => fX1_readAct_J133 N v0 v1 s0 ((-1)) ((-1)) x42 0 M42) else none)) else none) else (if s0 = 5 then ((fR M 1 v0 0).bind fun x57 => ((fR M 8 x57 7).bind fun x60 => ((fR M 1 v0 0).bind fun x64 => ((fI M 8 x64 6).bind fun x67 => (if mK M v1 = 10 then ((fX9_takeNameOf N v1 x60 x67 M).bind fun (x70, M70) => (if mK M70 v1 = 10 then ((fX9_takeKeyword N v1 5 M70).bind fun (u76, M76) => fX1_readAct_J86 N v0 v1 s0 x70 M76) else none)) else none))))) else (if mK M v1 = 10 then ((fX9_advance N v1 M).bind fun (u83, M83) => fX1_readAct_J86 N v0 v1 s0 ((-1)) M83) else none)))
def fX1_readAct (N : Nat) (v0 : Nat) (v1 : Nat) (M : Mem) : Option (Unit × Mem) := ((fI M 9 v1 9).bind fun x1 => (if x1 = ((-1)) then fX1_readAct_J16 N v0 v1 5 M else ((fI M 9 v1 9).bind fun x13 => fX1_readAct_J16 N v0 v1 x13 M)))
set_option maxHeartbeats 4000000 in
set_option maxRecDepth 100000 in
theorem k_X1_readAct (l : Launch) (b : Nat) (D : va_G) (cy : Nat → ClassId) (N : Nat) (v0 : Nat) (v1 : Nat) (M : Mem) (r : Unit) (Mf : Mem) (h : fX1_readAct N v0 v1 M = some (r, Mf)) : Ct l yX1_readAct cX1_readAct 7 none 4 0 0 b D cy [.ref (b + v0), .ref (b + v1)] M none Mf := by
  refine Ct_of (own := RX1) (by decide) rfl (Nat.le_of_ble_eq_true rfl) ?_
  intro p e s m args below meth c F hr hl hmn
  unfold fX1_readAct at h
  have J133 : ∀ (v0 : Nat) (v1 : Nat) (v2 : Int32) (v3 : Int32) (v4 : Int32) (v5 : Int32) (v6 : Int32) (M : Mem), fX1_readAct_J133 N v0 v1 v2 v3 v4 v5 v6 M = some (r, Mf) → X p l e ({ frames := 4, cells := 0, slots := 0, locals := 100 * 4 }) s m args below meth c (MQ below (Qm b D cy none Mf) args s 0 0 (fun q => b ≤ q)) 7 b D cy 0 0 M 133 [(0, .ref (b + v0)), (1, .ref (b + v1)), (2, .int v2), (3, .int v3), (4, .int v4), (5, .int v5), (6, .int v6)] [] := by
    intro v0 v1 v2 v3 v4 v5 v6 M h
    unfold fX1_readAct_J133 at h
    refine x_aload_n F dX1_readAct_133 rfl 1 rfl ?_
    obtain ⟨x134, c134, h⟩ := bdS h
    refine x_getI F (ci := 9) (C := RX9) (T := TX9) (N := 12) rfl ⟨by decide, rfl⟩ inU9 10 (by decide) (fun _ _ _ => rfl) wl_200 c134 dX1_readAct_134 ?_
    refine x_if_ne F (tgt := 203) dX1_readAct_137 (by decide) (fun c137 => ?_) (fun c137 => ?_)
    · rw [if_neg c137] at h
      obtain ⟨rfl, rfl⟩ := retS h
      exact x_vret F hr hl dX1_readAct_203
    · rw [if_pos c137] at h
      refine x_aload_n F dX1_readAct_140 rfl 0 rfl ?_
      obtain ⟨x141, c141, h⟩ := bdS h
      refine x_getR F (ci := 1) (C := RX1) (T := TX1) (N := 11) rfl ⟨by decide, rfl⟩ inU1 1 (by decide) (fun _ _ _ => rfl) wl_135 c141 dX1_readAct_141 ?_
      refine x_aload_n F dX1_readAct_144 rfl 0 rfl ?_
      obtain ⟨x145, c145, h⟩ := bdS h
      refine x_getI F (ci := 1) (C := RX1) (T := TX1) (N := 11) rfl ⟨by decide, rfl⟩ inU1 6 (by decide) (fun _ _ _ => rfl) wl_140 c145 dX1_readAct_145 ?_
      refine x_iload_n F dX1_readAct_148 rfl 2 rfl ?_
      obtain ⟨M149, c149, h⟩ := bdS h
      refine x_tI F c149 dX1_readAct_149 ?_
      refine x_aload_n F dX1_readAct_150 rfl 0 rfl ?_
      obtain ⟨x151, c151, h⟩ := bdS h
      refine x_getR F (ci := 1) (C := RX1) (T := TX1) (N := 11) rfl ⟨by decide, rfl⟩ inU1 2 (by decide) (fun _ _ _ => rfl) wl_136 c151 dX1_readAct_151 ?_
      refine x_aload_n F dX1_readAct_154 rfl 0 rfl ?_
      obtain ⟨x155, c155, h⟩ := bdS h
      refine x_getI F (ci := 1) (C := RX1) (T := TX1) (N := 11) rfl ⟨by decide, rfl⟩ inU1 6 (by decide) (fun _ _ _ => rfl) wl_140 c155 dX1_readAct_155 ?_
      refine x_iload_n F dX1_readAct_158 rfl 3 rfl ?_
      obtain ⟨M159, c159, h⟩ := bdS h
      refine x_tI F c159 dX1_readAct_159 ?_
      refine x_aload_n F dX1_readAct_160 rfl 0 rfl ?_
      obtain ⟨x161, c161, h⟩ := bdS h
      refine x_getR F (ci := 1) (C := RX1) (T := TX1) (N := 11) rfl ⟨by decide, rfl⟩ inU1 3 (by decide) (fun _ _ _ => rfl) wl_137 c161 dX1_readAct_161 ?_
      refine x_aload_n F dX1_readAct_164 rfl 0 rfl ?_
      obtain ⟨x165, c165, h⟩ := bdS h
      refine x_getI F (ci := 1) (C := RX1) (T := TX1) (N := 11) rfl ⟨by decide, rfl⟩ inU1 6 (by decide) (fun _ _ _ => rfl) wl_140 c165 dX1_readAct_165 ?_
      refine x_iload F dX1_readAct_168 4 rfl ?_
      obtain ⟨M170, c170, h⟩ := bdS h
      refine x_tI F c170 dX1_readAct_170 ?_
      refine x_aload_n F dX1_readAct_171 rfl 0 rfl ?_
      obtain ⟨x172, c172, h⟩ := bdS h
      refine x_getR F (ci := 1) (C := RX1) (T := TX1) (N := 11) rfl ⟨by decide, rfl⟩ inU1 4 (by decide) (fun _ _ _ => rfl) wl_138 c172 dX1_readAct_172 ?_
      refine x_aload_n F dX1_readAct_175 rfl 0 rfl ?_
      obtain ⟨x176, c176, h⟩ := bdS h
      refine x_getI F (ci := 1) (C := RX1) (T := TX1) (N := 11) rfl ⟨by decide, rfl⟩ inU1 6 (by decide) (fun _ _ _ => rfl) wl_140 c176 dX1_readAct_176 ?_
      refine x_iload F dX1_readAct_179 5 rfl ?_
      obtain ⟨M181, c181, h⟩ := bdS h
      refine x_tI F c181 dX1_readAct_181 ?_
      refine x_aload_n F dX1_readAct_182 rfl 0 rfl ?_
      obtain ⟨x183, c183, h⟩ := bdS h
      refine x_getR F (ci := 1) (C := RX1) (T := TX1) (N := 11) rfl ⟨by decide, rfl⟩ inU1 5 (by decide) (fun _ _ _ => rfl) wl_139 c183 dX1_readAct_183 ?_
      refine x_aload_n F dX1_readAct_186 rfl 0 rfl ?_
      obtain ⟨x187, c187, h⟩ := bdS h
      refine x_getI F (ci := 1) (C := RX1) (T := TX1) (N := 11) rfl ⟨by decide, rfl⟩ inU1 6 (by decide) (fun _ _ _ => rfl) wl_140 c187 dX1_readAct_187 ?_
      refine x_iload F dX1_readAct_190 6 rfl ?_
      obtain ⟨M192, c192, h⟩ := bdS h
      refine x_tI F c192 dX1_readAct_192 ?_
      refine x_aload_n F dX1_readAct_193 rfl 0 rfl ?_
      refine x_dup F dX1_readAct_194 rfl ?_
      obtain ⟨x195, c195, h⟩ := bdS h
      refine x_getI F (ci := 1) (C := RX1) (T := TX1) (N := 11) rfl ⟨by decide, rfl⟩ inU1 6 (by decide) (fun _ _ _ => rfl) wl_140 c195 dX1_readAct_195 ?_
      refine x_iconst F (v := 1) dX1_readAct_198 (by decide) ?_
      refine x_iadd F dX1_readAct_199 ?_
      obtain ⟨M200, c200, h⟩ := bdS h
      refine x_putI F (ci := 1) (C := RX1) (T := TX1) (N := 11) rfl ⟨by decide, rfl⟩ inU1 tyX1_ok nmX1 6 (by decide) rfl rfl wl_140 c200 dX1_readAct_200 ?_
      obtain ⟨rfl, rfl⟩ := retS h
      exact x_vret F hr hl dX1_readAct_203
  have J131 : ∀ (v0 : Nat) (v1 : Nat) (v2 : Int32) (v3 : Int32) (v4 : Int32) (v5 : Int32) (s0 : Int32) (M : Mem), fX1_readAct_J131 N v0 v1 v2 v3 v4 v5 s0 M = some (r, Mf) → X p l e ({ frames := 4, cells := 0, slots := 0, locals := 100 * 4 }) s m args below meth c (MQ below (Qm b D cy none Mf) args s 0 0 (fun q => b ≤ q)) 7 b D cy 0 0 M 131 [(0, .ref (b + v0)), (1, .ref (b + v1)), (2, .int v2), (3, .int v3), (4, .int v4), (5, .int v5)] [.int s0] := by
    intro v0 v1 v2 v3 v4 v5 s0 M h
    unfold fX1_readAct_J131 at h
    refine x_istore F (lv' := [(6, .int s0), (0, .ref (b + v0)), (1, .ref (b + v1)), (2, .int v2), (3, .int v3), (4, .int v4), (5, .int v5)]) dX1_readAct_131 (by decide) rfl ?_
    refine x_sub [1, 2, 3, 4, 5, 6, 0] rfl ?_
    exact J133 v0 v1 v2 v3 v4 v5 s0 M h
  have J86 : ∀ (v0 : Nat) (v1 : Nat) (v2 : Int32) (v3 : Int32) (M : Mem), fX1_readAct_J86 N v0 v1 v2 v3 M = some (r, Mf) → X p l e ({ frames := 4, cells := 0, slots := 0, locals := 100 * 4 }) s m args below meth c (MQ below (Qm b D cy none Mf) args s 0 0 (fun q => b ≤ q)) 7 b D cy 0 0 M 86 [(0, .ref (b + v0)), (1, .ref (b + v1)), (2, .int v2), (3, .int v3)] [] := by
    intro v0 v1 v2 v3 M h
    unfold fX1_readAct_J86 at h
    refine x_aload_n F dX1_readAct_86 rfl 1 rfl ?_
    refine x_aload_n F dX1_readAct_87 rfl 0 rfl ?_
    obtain ⟨x88, c88, h⟩ := bdS h
    refine x_getR F (ci := 1) (C := RX1) (T := TX1) (N := 11) rfl ⟨by decide, rfl⟩ inU1 0 (by decide) (fun _ _ _ => rfl) wl_145 c88 dX1_readAct_88 ?_
    obtain ⟨x91, c91, h⟩ := bdS h
    refine x_getR F (ci := 8) (C := RX8) (T := TX8) (N := 17) rfl ⟨by decide, rfl⟩ inU8 1 (by decide) (fun _ _ _ => rfl) wl_198 c91 dX1_readAct_91 ?_
    refine x_aload_n F dX1_readAct_94 rfl 0 rfl ?_
    obtain ⟨x95, c95, h⟩ := bdS h
    refine x_getR F (ci := 1) (C := RX1) (T := TX1) (N := 11) rfl ⟨by decide, rfl⟩ inU1 0 (by decide) (fun _ _ _ => rfl) wl_145 c95 dX1_readAct_95 ?_
    obtain ⟨x98, c98, h⟩ := bdS h
    refine x_getI F (ci := 8) (C := RX8) (T := TX8) (N := 17) rfl ⟨by decide, rfl⟩ inU8 0 (by decide) (fun _ _ _ => rfl) wl_199 c98 dX1_readAct_98 ?_
    obtain ⟨k101, h⟩ := gdS h
    obtain ⟨⟨x101, M101⟩, c101, h⟩ := bdS h
    dsimp only at h
    refine x_callV F (As := [.ref (b + x91), .int x98]) (rest := []) (res := (some (.int x101))) (ci := 9) (q := (RX9, TX9, 12)) rfl (by decide) k101 (k_X9_takeNameOf l b D cy N v1 x91 x98 M _ _ c101) wl_205 wl_206 wl_207 wl_164 wl_193 hd_X9_takeNameOf ⟨Nat.le_of_ble_eq_true rfl, Nat.le_of_ble_eq_true rfl⟩ ⟨Nat.le_refl _, Nat.le_refl _⟩ (Nat.le_of_ble_eq_true rfl) rfl dX1_readAct_101 ?_
    refine x_istore F (lv' := [(4, .int x101), (0, .ref (b + v0)), (1, .ref (b + v1)), (2, .int v2), (3, .int v3)]) dX1_readAct_104 (by decide) rfl ?_
    refine x_aload_n F dX1_readAct_106 rfl 2 rfl ?_
    refine x_iconst F (v := 0) dX1_readAct_107 (by decide) ?_
    refine x_bipush F (v := 11) dX1_readAct_108 (by decide) ?_
    obtain ⟨k110, h⟩ := gdS h
    obtain ⟨⟨x110, M110⟩, c110, h⟩ := bdS h
    dsimp only at h
    refine x_callV F (As := [.int 0, .int 11]) (rest := []) (res := (some (.int x110))) (ci := 9) (q := (RX9, TX9, 12)) rfl (by decide) k110 (k_X9_takeNumber l b D cy N v1 0 11 M101 _ _ c110) wl_202 wl_203 wl_204 wl_164 wl_187 hd_X9_takeNumber ⟨Nat.le_of_ble_eq_true rfl, Nat.le_of_ble_eq_true rfl⟩ ⟨Nat.le_refl _, Nat.le_refl _⟩ (Nat.le_of_ble_eq_true rfl) rfl dX1_readAct_110 ?_
    refine x_istore F (lv' := [(5, .int x110), (4, .int x101), (0, .ref (b + v0)), (1, .ref (b + v1)), (2, .int v2), (3, .int v3)]) dX1_readAct_113 (by decide) rfl ?_
    refine x_iload_n F dX1_readAct_115 rfl 4 rfl ?_
    refine x_iconst F (v := 5) dX1_readAct_116 (by decide) ?_
    refine x_icmp_ne F (tgt := 130) dX1_readAct_117 (by decide) (fun c117 => ?_) (fun c117 => ?_)
    · rw [if_neg c117] at h
      refine x_iconst F (v := 0) dX1_readAct_130 (by decide) ?_
      refine x_sub [2, 3, 4, 5, 1, 0] rfl ?_
      exact J131 v0 v1 v2 v3 x101 x110 0 M110 h
    · rw [if_pos c117] at h
      refine x_aload_n F dX1_readAct_120 rfl 3 rfl ?_
      refine x_iconst F (v := 0) dX1_readAct_121 (by decide) ?_
      refine x_bipush F (v := 9) dX1_readAct_122 (by decide) ?_
      obtain ⟨k124, h⟩ := gdS h
      obtain ⟨⟨x124, M124⟩, c124, h⟩ := bdS h
      dsimp only at h
      refine x_callV F (As := [.int 0, .int 9]) (rest := []) (res := (some (.int x124))) (ci := 9) (q := (RX9, TX9, 12)) rfl (by decide) k124 (k_X9_takeNumber l b D cy N v1 0 9 M110 _ _ c124) wl_202 wl_203 wl_204 wl_164 wl_187 hd_X9_takeNumber ⟨Nat.le_of_ble_eq_true rfl, Nat.le_of_ble_eq_true rfl⟩ ⟨Nat.le_refl _, Nat.le_refl _⟩ (Nat.le_of_ble_eq_true rfl) rfl dX1_readAct_124 ?_
      refine x_goto F (tgt := 131) dX1_readAct_127 (by decide) ?_
      refine x_sub [2, 3, 4, 5, 1, 0] rfl ?_
      exact J131 v0 v1 v2 v3 x101 x110 x124 M124 h
  have J16 : ∀ (v0 : Nat) (v1 : Nat) (s0 : Int32) (M : Mem), fX1_readAct_J16 N v0 v1 s0 M = some (r, Mf) → X p l e ({ frames := 4, cells := 0, slots := 0, locals := 100 * 4 }) s m args below meth c (MQ below (Qm b D cy none Mf) args s 0 0 (fun q => b ≤ q)) 7 b D cy 0 0 M 16 [(0, .ref (b + v0)), (1, .ref (b + v1))] [.int s0] := by
    intro v0 v1 s0 M h
    unfold fX1_readAct_J16 at h
    refine x_istore_n F (lv' := [(2, .int s0), (0, .ref (b + v0)), (1, .ref (b + v1))]) dX1_readAct_16 rfl (by decide) rfl ?_
    refine x_iconst F (v := (-1)) dX1_readAct_17 (by decide) ?_
    refine x_istore_n F (lv' := [(3, .int ((-1))), (2, .int s0), (0, .ref (b + v0)), (1, .ref (b + v1))]) dX1_readAct_18 rfl (by decide) rfl ?_
    refine x_iconst F (v := (-1)) dX1_readAct_19 (by decide) ?_
    refine x_istore F (lv' := [(4, .int ((-1))), (3, .int ((-1))), (2, .int s0), (0, .ref (b + v0)), (1, .ref (b + v1))]) dX1_readAct_20 (by decide) rfl ?_
    refine x_iconst F (v := 0) dX1_readAct_22 (by decide) ?_
    refine x_istore F (lv' := [(5, .int 0), (4, .int ((-1))), (3, .int ((-1))), (2, .int s0), (0, .ref (b + v0)), (1, .ref (b + v1))]) dX1_readAct_23 (by decide) rfl ?_
    refine x_iconst F (v := 0) dX1_readAct_25 (by decide) ?_
    refine x_istore F (lv' := [(6, .int 0), (5, .int 0), (4, .int ((-1))), (3, .int ((-1))), (2, .int s0), (0, .ref (b + v0)), (1, .ref (b + v1))]) dX1_readAct_26 (by decide) rfl ?_
    refine x_iload_n F dX1_readAct_28 rfl 4 rfl ?_
    refine x_bipush F (v := 7) dX1_readAct_29 (by decide) ?_
    refine x_icmp_ne F (tgt := 50) dX1_readAct_31 (by decide) (fun c31 => ?_) (fun c31 => ?_)
    · rw [if_neg c31] at h
      refine x_iload_n F dX1_readAct_50 rfl 4 rfl ?_
      refine x_iconst F (v := 5) dX1_readAct_51 (by decide) ?_
      refine x_icmp_ne F (tgt := 82) dX1_readAct_52 (by decide) (fun c52 => ?_) (fun c52 => ?_)
      · rw [if_neg c52] at h
        refine x_aload_n F dX1_readAct_82 rfl 6 rfl ?_
        obtain ⟨k83, h⟩ := gdS h
        obtain ⟨⟨u83, M83⟩, c83, h⟩ := bdS h
        dsimp only at h
        refine x_callV F (As := []) (rest := []) (res := none) (ci := 9) (q := (RX9, TX9, 12)) rfl (by decide) k83 (k_X9_advance l b D cy N v1 M _ _ c83) wl_201 wl_178 wl_179 wl_164 wl_174 hd_X9_advance ⟨Nat.le_of_ble_eq_true rfl, Nat.le_of_ble_eq_true rfl⟩ ⟨Nat.le_refl _, Nat.le_refl _⟩ (Nat.le_of_ble_eq_true rfl) rfl dX1_readAct_83 ?_
        refine x_sub [5, 6, 4, 3] rfl ?_
        exact J86 v0 v1 s0 ((-1)) M83 h
      · rw [if_pos c52] at h
        refine x_aload_n F dX1_readAct_55 rfl 6 rfl ?_
        refine x_aload_n F dX1_readAct_56 rfl 5 rfl ?_
        obtain ⟨x57, c57, h⟩ := bdS h
        refine x_getR F (ci := 1) (C := RX1) (T := TX1) (N := 11) rfl ⟨by decide, rfl⟩ inU1 0 (by decide) (fun _ _ _ => rfl) wl_145 c57 dX1_readAct_57 ?_
        obtain ⟨x60, c60, h⟩ := bdS h
        refine x_getR F (ci := 8) (C := RX8) (T := TX8) (N := 17) rfl ⟨by decide, rfl⟩ inU8 7 (by decide) (fun _ _ _ => rfl) wl_196 c60 dX1_readAct_60 ?_
        refine x_aload_n F dX1_readAct_63 rfl 5 rfl ?_
        obtain ⟨x64, c64, h⟩ := bdS h
        refine x_getR F (ci := 1) (C := RX1) (T := TX1) (N := 11) rfl ⟨by decide, rfl⟩ inU1 0 (by decide) (fun _ _ _ => rfl) wl_145 c64 dX1_readAct_64 ?_
        obtain ⟨x67, c67, h⟩ := bdS h
        refine x_getI F (ci := 8) (C := RX8) (T := TX8) (N := 17) rfl ⟨by decide, rfl⟩ inU8 6 (by decide) (fun _ _ _ => rfl) wl_197 c67 dX1_readAct_67 ?_
        obtain ⟨k70, h⟩ := gdS h
        obtain ⟨⟨x70, M70⟩, c70, h⟩ := bdS h
        dsimp only at h
        refine x_callV F (As := [.ref (b + x60), .int x67]) (rest := []) (res := (some (.int x70))) (ci := 9) (q := (RX9, TX9, 12)) rfl (by decide) k70 (k_X9_takeNameOf l b D cy N v1 x60 x67 M _ _ c70) wl_205 wl_206 wl_207 wl_164 wl_193 hd_X9_takeNameOf ⟨Nat.le_of_ble_eq_true rfl, Nat.le_of_ble_eq_true rfl⟩ ⟨Nat.le_refl _, Nat.le_refl _⟩ (Nat.le_of_ble_eq_true rfl) rfl dX1_readAct_70 ?_
        refine x_istore_n F (lv' := [(3, .int x70), (6, .int 0), (5, .int 0), (4, .int ((-1))), (2, .int s0), (0, .ref (b + v0)), (1, .ref (b + v1))]) dX1_readAct_73 rfl (by decide) rfl ?_
        refine x_aload_n F dX1_readAct_74 rfl 6 rfl ?_
        refine x_iconst F (v := 5) dX1_readAct_75 (by decide) ?_
        obtain ⟨k76, h⟩ := gdS h
        obtain ⟨⟨u76, M76⟩, c76, h⟩ := bdS h
        dsimp only at h
        refine x_callV F (As := [.int 5]) (rest := []) (res := none) (ci := 9) (q := (RX9, TX9, 12)) rfl (by decide) k76 (k_X9_takeKeyword l b D cy N v1 5 M70 _ _ c76) wl_208 wl_209 wl_210 wl_164 wl_194 hd_X9_takeKeyword ⟨Nat.le_of_ble_eq_true rfl, Nat.le_of_ble_eq_true rfl⟩ ⟨Nat.le_refl _, Nat.le_refl _⟩ (Nat.le_of_ble_eq_true rfl) rfl dX1_readAct_76 ?_
        refine x_goto F (tgt := 86) dX1_readAct_79 (by decide) ?_
        refine x_sub [5, 6, 4, 0] rfl ?_
        exact J86 v0 v1 s0 x70 M76 h
    · rw [if_pos c31] at h
      refine x_aload_n F dX1_readAct_34 rfl 6 rfl ?_
      obtain ⟨k35, h⟩ := gdS h
      obtain ⟨⟨u35, M35⟩, c35, h⟩ := bdS h
      dsimp only at h
      refine x_callV F (As := []) (rest := []) (res := none) (ci := 9) (q := (RX9, TX9, 12)) rfl (by decide) k35 (k_X9_advance l b D cy N v1 M _ _ c35) wl_201 wl_178 wl_179 wl_164 wl_174 hd_X9_advance ⟨Nat.le_of_ble_eq_true rfl, Nat.le_of_ble_eq_true rfl⟩ ⟨Nat.le_refl _, Nat.le_refl _⟩ (Nat.le_of_ble_eq_true rfl) rfl dX1_readAct_35 ?_
      refine x_aload_n F dX1_readAct_38 rfl 6 rfl ?_
      refine x_iconst F (v := 1) dX1_readAct_39 (by decide) ?_
      refine x_bipush F (v := 60) dX1_readAct_40 (by decide) ?_
      obtain ⟨k42, h⟩ := gdS h
      obtain ⟨⟨x42, M42⟩, c42, h⟩ := bdS h
      dsimp only at h
      refine x_callV F (As := [.int 1, .int 60]) (rest := []) (res := (some (.int x42))) (ci := 9) (q := (RX9, TX9, 12)) rfl (by decide) k42 (k_X9_takeNumber l b D cy N v1 1 60 M35 _ _ c42) wl_202 wl_203 wl_204 wl_164 wl_187 hd_X9_takeNumber ⟨Nat.le_of_ble_eq_true rfl, Nat.le_of_ble_eq_true rfl⟩ ⟨Nat.le_refl _, Nat.le_refl _⟩ (Nat.le_of_ble_eq_true rfl) rfl dX1_readAct_42 ?_
      refine x_istore F (lv' := [(5, .int x42), (6, .int 0), (4, .int ((-1))), (3, .int ((-1))), (2, .int s0), (0, .ref (b + v0)), (1, .ref (b + v1))]) dX1_readAct_45 (by decide) rfl ?_
      refine x_goto F (tgt := 133) dX1_readAct_47 (by decide) ?_
      refine x_sub [5, 6, 4, 3, 2, 0, 1] rfl ?_
      exact J133 v0 v1 s0 ((-1)) ((-1)) x42 0 M42 h
  show X p l e ({ frames := 4, cells := 0, slots := 0, locals := 100 * 4 }) s m args below meth c (MQ below (Qm b D cy none Mf) args s 0 0 (fun q => b ≤ q)) 7 b D cy 0 0 M 0 [(0, .ref (b + v0)), (1, .ref (b + v1))] []
  refine x_aload_n F dX1_readAct_0 rfl 1 rfl ?_
  obtain ⟨x1, c1, h⟩ := bdS h
  refine x_getI F (ci := 9) (C := RX9) (T := TX9) (N := 12) rfl ⟨by decide, rfl⟩ inU9 9 (by decide) (fun _ _ _ => rfl) wl_195 c1 dX1_readAct_1 ?_
  refine x_iconst F (v := (-1)) dX1_readAct_4 (by decide) ?_
  refine x_icmp_ne F (tgt := 12) dX1_readAct_5 (by decide) (fun c5 => ?_) (fun c5 => ?_)
  · rw [if_neg c5] at h
    refine x_aload_n F dX1_readAct_12 rfl 1 rfl ?_
    obtain ⟨x13, c13, h⟩ := bdS h
    refine x_getI F (ci := 9) (C := RX9) (T := TX9) (N := 12) rfl ⟨by decide, rfl⟩ inU9 9 (by decide) (fun _ _ _ => rfl) wl_195 c13 dX1_readAct_13 ?_
    exact J16 v0 v1 x13 M h
  · rw [if_pos c5] at h
    refine x_iconst F (v := 5) dX1_readAct_8 (by decide) ?_
    refine x_goto F (tgt := 16) dX1_readAct_9 (by decide) ?_
    exact J16 v0 v1 5 M h
theorem hd_X1_readAct : (yX1_readAct).cls = RX1 ∧ (yX1_readAct).cls ≠ "java/lang/invoke/MethodHandle" ∧ (yX1_readAct).cls ≠ "java/lang/invoke/VarHandle" ∧ (parseMethodDescriptor (yX1_readAct).desc).map (fun d => d.parameters.length) = some 1 := by decide +kernel
theorem dX1_readLine_0 : decode cX1_readLine 0 = .ok (.aload_n 1, 1) := by decide +kernel
theorem dX1_readLine_1 : decode cX1_readLine 1 = .ok (.getfield 66, 3) := by decide +kernel
theorem dX1_readLine_4 : decode cX1_readLine 4 = .ok (.bipush 6, 2) := by decide +kernel
theorem dX1_readLine_6 : decode cX1_readLine 6 = .ok (.if_icmp .eq 12, 3) := by decide +kernel
theorem dX1_readLine_9 : decode cX1_readLine 9 = .ok (.aload_n 1, 1) := by decide +kernel
theorem dX1_readLine_10 : decode cX1_readLine 10 = .ok (.getfield 66, 3) := by decide +kernel
theorem dX1_readLine_13 : decode cX1_readLine 13 = .ok (.bipush 7, 2) := by decide +kernel
theorem dX1_readLine_15 : decode cX1_readLine 15 = .ok (.if_icmp .ne 7, 3) := by decide +kernel
theorem dX1_readLine_18 : decode cX1_readLine 18 = .ok (.iconst 1, 1) := by decide +kernel
theorem dX1_readLine_19 : decode cX1_readLine 19 = .ok (.goto 4, 3) := by decide +kernel
theorem dX1_readLine_22 : decode cX1_readLine 22 = .ok (.iconst 0, 1) := by decide +kernel
theorem dX1_readLine_23 : decode cX1_readLine 23 = .ok (.istore_n 2, 1) := by decide +kernel
theorem dX1_readLine_24 : decode cX1_readLine 24 = .ok (.iload_n 2, 1) := by decide +kernel
theorem dX1_readLine_25 : decode cX1_readLine 25 = .ok (.ifCond .ne 18, 3) := by decide +kernel
theorem dX1_readLine_28 : decode cX1_readLine 28 = .ok (.aload_n 1, 1) := by decide +kernel
theorem dX1_readLine_29 : decode cX1_readLine 29 = .ok (.invokevirtual 69, 3) := by decide +kernel
theorem dX1_readLine_32 : decode cX1_readLine 32 = .ok (.ifCond .ne 11, 3) := by decide +kernel
theorem dX1_readLine_35 : decode cX1_readLine 35 = .ok (.aload_n 1, 1) := by decide +kernel
theorem dX1_readLine_36 : decode cX1_readLine 36 = .ok (.iconst 1, 1) := by decide +kernel
theorem dX1_readLine_37 : decode cX1_readLine 37 = .ok (.invokevirtual 73, 3) := by decide +kernel
theorem dX1_readLine_40 : decode cX1_readLine 40 = .ok (.goto 62, 3) := by decide +kernel
theorem dX1_readLine_43 : decode cX1_readLine 43 = .ok (.iload_n 2, 1) := by decide +kernel
theorem dX1_readLine_44 : decode cX1_readLine 44 = .ok (.ifCond .ne 36, 3) := by decide +kernel
theorem dX1_readLine_47 : decode cX1_readLine 47 = .ok (.aload_n 0, 1) := by decide +kernel
theorem dX1_readLine_48 : decode cX1_readLine 48 = .ok (.getfield 43, 3) := by decide +kernel
theorem dX1_readLine_51 : decode cX1_readLine 51 = .ok (.getfield 76, 3) := by decide +kernel
theorem dX1_readLine_54 : decode cX1_readLine 54 = .ok (.aload_n 0, 1) := by decide +kernel
theorem dX1_readLine_55 : decode cX1_readLine 55 = .ok (.getfield 43, 3) := by decide +kernel
theorem dX1_readLine_58 : decode cX1_readLine 58 = .ok (.getfield 82, 3) := by decide +kernel
theorem dX1_readLine_61 : decode cX1_readLine 61 = .ok (.aload_n 1, 1) := by decide +kernel
theorem dX1_readLine_62 : decode cX1_readLine 62 = .ok (.getfield 85, 3) := by decide +kernel
theorem dX1_readLine_65 : decode cX1_readLine 65 = .ok (.invokestatic 89, 3) := by decide +kernel
theorem dX1_readLine_68 : decode cX1_readLine 68 = .ok (.iconst (-1), 1) := by decide +kernel
theorem dX1_readLine_69 : decode cX1_readLine 69 = .ok (.if_icmp .ne 11, 3) := by decide +kernel
theorem dX1_readLine_72 : decode cX1_readLine 72 = .ok (.aload_n 1, 1) := by decide +kernel
theorem dX1_readLine_73 : decode cX1_readLine 73 = .ok (.iconst 3, 1) := by decide +kernel
theorem dX1_readLine_74 : decode cX1_readLine 74 = .ok (.invokevirtual 73, 3) := by decide +kernel
theorem dX1_readLine_77 : decode cX1_readLine 77 = .ok (.goto 25, 3) := by decide +kernel
theorem dX1_readLine_80 : decode cX1_readLine 80 = .ok (.aload_n 0, 1) := by decide +kernel
theorem dX1_readLine_81 : decode cX1_readLine 81 = .ok (.getfield 27, 3) := by decide +kernel
theorem dX1_readLine_84 : decode cX1_readLine 84 = .ok (.bipush 40, 2) := by decide +kernel
theorem dX1_readLine_86 : decode cX1_readLine 86 = .ok (.if_icmp .lt 11, 3) := by decide +kernel
theorem dX1_readLine_89 : decode cX1_readLine 89 = .ok (.aload_n 1, 1) := by decide +kernel
theorem dX1_readLine_90 : decode cX1_readLine 90 = .ok (.iconst 4, 1) := by decide +kernel
theorem dX1_readLine_91 : decode cX1_readLine 91 = .ok (.invokevirtual 73, 3) := by decide +kernel
theorem dX1_readLine_94 : decode cX1_readLine 94 = .ok (.goto 8, 3) := by decide +kernel
theorem dX1_readLine_97 : decode cX1_readLine 97 = .ok (.aload_n 0, 1) := by decide +kernel
theorem dX1_readLine_98 : decode cX1_readLine 98 = .ok (.aload_n 1, 1) := by decide +kernel
theorem dX1_readLine_99 : decode cX1_readLine 99 = .ok (.invokevirtual 93, 3) := by decide +kernel
theorem dX1_readLine_102 : decode cX1_readLine 102 = .ok (.return_, 1) := by decide +kernel
def fX1_readLine_J80 (N : Nat) (v0 : Nat) (v1 : Nat) (M : Mem) : Option (Unit × Mem) := ((fI M 1 v0 6).bind fun x81 => (if x81 < 40 then (if mK M v0 = 2 then ((fX1_readAct N v0 v1 M).bind fun (u99, M99) => some ((), M99)) else none) else (if mK M v1 = 10 then ((fX9_fail N v1 4 M).bind fun (u91, M91) => some ((), M91)) else none)))
def fX1_readLine_J43 (N : Nat) (v0 : Nat) (v1 : Nat) (v2 : Int32) (M : Mem) : Option (Unit × Mem) := (if v2 = 0 then ((fR M 1 v0 0).bind fun x48 => ((fR M 8 x48 7).bind fun x51 => ((fR M 1 v0 0).bind fun x55 => ((fI M 8 x55 6).bind fun x58 => ((fL M 9 v1 8).bind fun x62 => ((fX8_indexOf N x51 x58 x62 M).bind fun (x65, M65) => (if x65 = ((-1)) then (if mK M65 v1 = 10 then ((fX9_fail N v1 3 M65).bind fun (u74, M74) => some ((), M74)) else none) else fX1_readLine_J80 N v0 v1 M65))))))) else fX1_readLine_J80 N v0 v1 M)
def fX1_readLine_J23 (N : Nat) (v0 : Nat) (v1 : Nat) (s0 : Int32) (M : Mem) : Option (Unit × Mem) := (if s0 = 0 then (if mK M v1 = 10 then ((fX9_atName N v1 M).bind fun (x29, M29) => (if x29 = 0 then (if mK M29 v1 = 10 then ((fX9_fail N v1 1 M29).bind fun (u37, M37) => some ((), M37)) else none) else fX1_readLine_J43 N v0 v1 s0 M29)) else none) else fX1_readLine_J43 N v0 v1 s0 M)
def fX1_readLine_J18 (N : Nat) (v0 : Nat) (v1 : Nat) (M : Mem) : Option (Unit × Mem) := fX1_readLine_J23 N v0 v1 1 M
def fX1_readLine (N : Nat) (v0 : Nat) (v1 : Nat) (M : Mem) : Option (Unit × Mem) := ((fI M 9 v1 9).bind fun x1 => (if x1 = 6 then fX1_readLine_J18 N v0 v1 M else ((fI M 9 v1 9).bind fun x10 => (if x10 = 7 then fX1_readLine_J18 N v0 v1 M else fX1_readLine_J23 N v0 v1 0 M))))
set_option maxHeartbeats 4000000 in
set_option maxRecDepth 100000 in
theorem k_X1_readLine (l : Launch) (b : Nat) (D : va_G) (cy : Nat → ClassId) (N : Nat) (v0 : Nat) (v1 : Nat) (M : Mem) (r : Unit) (Mf : Mem) (h : fX1_readLine N v0 v1 M = some (r, Mf)) : Ct l yX1_readLine cX1_readLine 3 none 5 0 0 b D cy [.ref (b + v0), .ref (b + v1)] M none Mf := by
  refine Ct_of (own := RX1) (by decide) rfl (Nat.le_of_ble_eq_true rfl) ?_
  intro p e s m args below meth c F hr hl hmn
  unfold fX1_readLine at h
  have J80 : ∀ (v0 : Nat) (v1 : Nat) (M : Mem), fX1_readLine_J80 N v0 v1 M = some (r, Mf) → X p l e ({ frames := 5, cells := 0, slots := 0, locals := 100 * 5 }) s m args below meth c (MQ below (Qm b D cy none Mf) args s 0 0 (fun q => b ≤ q)) 3 b D cy 0 0 M 80 [(0, .ref (b + v0)), (1, .ref (b + v1))] [] := by
    intro v0 v1 M h
    unfold fX1_readLine_J80 at h
    refine x_aload_n F dX1_readLine_80 rfl 0 rfl ?_
    obtain ⟨x81, c81, h⟩ := bdS h
    refine x_getI F (ci := 1) (C := RX1) (T := TX1) (N := 11) rfl ⟨by decide, rfl⟩ inU1 6 (by decide) (fun _ _ _ => rfl) wl_140 c81 dX1_readLine_81 ?_
    refine x_bipush F (v := 40) dX1_readLine_84 (by decide) ?_
    refine x_icmp_lt F (tgt := 97) dX1_readLine_86 (by decide) (fun c86 => ?_) (fun c86 => ?_)
    · rw [if_pos c86] at h
      refine x_aload_n F dX1_readLine_97 rfl 0 rfl ?_
      refine x_aload_n F dX1_readLine_98 rfl 1 rfl ?_
      obtain ⟨k99, h⟩ := gdS h
      obtain ⟨⟨u99, M99⟩, c99, h⟩ := bdS h
      dsimp only at h
      refine x_callV F (As := [.ref (b + v1)]) (rest := []) (res := none) (ci := 1) (q := (RX1, TX1, 11)) rfl (by decide) k99 (k_X1_readAct l b D cy N v0 v1 M _ _ c99) wl_216 wl_217 wl_218 wl_219 wl_211 hd_X1_readAct ⟨Nat.le_of_ble_eq_true rfl, Nat.le_of_ble_eq_true rfl⟩ ⟨Nat.le_refl _, Nat.le_refl _⟩ (Nat.le_of_ble_eq_true rfl) rfl dX1_readLine_99 ?_
      obtain ⟨rfl, rfl⟩ := retS h
      exact x_vret F hr hl dX1_readLine_102
    · rw [if_neg c86] at h
      refine x_aload_n F dX1_readLine_89 rfl 1 rfl ?_
      refine x_iconst F (v := 4) dX1_readLine_90 (by decide) ?_
      obtain ⟨k91, h⟩ := gdS h
      obtain ⟨⟨u91, M91⟩, c91, h⟩ := bdS h
      dsimp only at h
      refine x_callV F (As := [.int 4]) (rest := []) (res := none) (ci := 9) (q := (RX9, TX9, 12)) rfl (by decide) k91 (k_X9_fail l b D cy N v1 4 M _ _ c91) wl_214 wl_185 wl_186 wl_164 wl_182 hd_X9_fail ⟨Nat.le_of_ble_eq_true rfl, Nat.le_of_ble_eq_true rfl⟩ ⟨Nat.le_refl _, Nat.le_refl _⟩ (Nat.le_of_ble_eq_true rfl) rfl dX1_readLine_91 ?_
      refine x_goto F (tgt := 102) dX1_readLine_94 (by decide) ?_
      obtain ⟨rfl, rfl⟩ := retS h
      exact x_vret F hr hl dX1_readLine_102
  have J43 : ∀ (v0 : Nat) (v1 : Nat) (v2 : Int32) (M : Mem), fX1_readLine_J43 N v0 v1 v2 M = some (r, Mf) → X p l e ({ frames := 5, cells := 0, slots := 0, locals := 100 * 5 }) s m args below meth c (MQ below (Qm b D cy none Mf) args s 0 0 (fun q => b ≤ q)) 3 b D cy 0 0 M 43 [(0, .ref (b + v0)), (1, .ref (b + v1)), (2, .int v2)] [] := by
    intro v0 v1 v2 M h
    unfold fX1_readLine_J43 at h
    refine x_iload_n F dX1_readLine_43 rfl 2 rfl ?_
    refine x_if_ne F (tgt := 80) dX1_readLine_44 (by decide) (fun c44 => ?_) (fun c44 => ?_)
    · rw [if_neg c44] at h
      refine x_sub [0, 1] rfl ?_
      exact J80 v0 v1 M h
    · rw [if_pos c44] at h
      refine x_aload_n F dX1_readLine_47 rfl 0 rfl ?_
      obtain ⟨x48, c48, h⟩ := bdS h
      refine x_getR F (ci := 1) (C := RX1) (T := TX1) (N := 11) rfl ⟨by decide, rfl⟩ inU1 0 (by decide) (fun _ _ _ => rfl) wl_145 c48 dX1_readLine_48 ?_
      obtain ⟨x51, c51, h⟩ := bdS h
      refine x_getR F (ci := 8) (C := RX8) (T := TX8) (N := 17) rfl ⟨by decide, rfl⟩ inU8 7 (by decide) (fun _ _ _ => rfl) wl_196 c51 dX1_readLine_51 ?_
      refine x_aload_n F dX1_readLine_54 rfl 0 rfl ?_
      obtain ⟨x55, c55, h⟩ := bdS h
      refine x_getR F (ci := 1) (C := RX1) (T := TX1) (N := 11) rfl ⟨by decide, rfl⟩ inU1 0 (by decide) (fun _ _ _ => rfl) wl_145 c55 dX1_readLine_55 ?_
      obtain ⟨x58, c58, h⟩ := bdS h
      refine x_getI F (ci := 8) (C := RX8) (T := TX8) (N := 17) rfl ⟨by decide, rfl⟩ inU8 6 (by decide) (fun _ _ _ => rfl) wl_197 c58 dX1_readLine_58 ?_
      refine x_aload_n F dX1_readLine_61 rfl 1 rfl ?_
      obtain ⟨x62, c62, h⟩ := bdS h
      refine x_getL F (ci := 9) (C := RX9) (T := TX9) (N := 12) rfl ⟨by decide, rfl⟩ inU9 8 (by decide) (fun _ _ _ => rfl) wl_212 c62 dX1_readLine_62 ?_
      obtain ⟨⟨x65, M65⟩, c65, h⟩ := bdS h
      dsimp only at h
      refine x_callS F (As := [.ref (b + x51), .int x58, .long x62]) (rest := []) (res := (some (.int x65))) (k_X8_indexOf l b D cy N x51 x58 x62 M _ _ c65) wl_215 wl_192 wl_75 wl_183 (hd_X8_indexOf).2 ⟨Nat.le_of_ble_eq_true rfl, Nat.le_of_ble_eq_true rfl⟩ ⟨Nat.le_refl _, Nat.le_refl _⟩ (Nat.le_of_ble_eq_true rfl) rfl dX1_readLine_65 ?_
      refine x_iconst F (v := (-1)) dX1_readLine_68 (by decide) ?_
      refine x_icmp_ne F (tgt := 80) dX1_readLine_69 (by decide) (fun c69 => ?_) (fun c69 => ?_)
      · rw [if_neg c69] at h
        refine x_sub [0, 1] rfl ?_
        exact J80 v0 v1 M65 h
      · rw [if_pos c69] at h
        refine x_aload_n F dX1_readLine_72 rfl 1 rfl ?_
        refine x_iconst F (v := 3) dX1_readLine_73 (by decide) ?_
        obtain ⟨k74, h⟩ := gdS h
        obtain ⟨⟨u74, M74⟩, c74, h⟩ := bdS h
        dsimp only at h
        refine x_callV F (As := [.int 3]) (rest := []) (res := none) (ci := 9) (q := (RX9, TX9, 12)) rfl (by decide) k74 (k_X9_fail l b D cy N v1 3 M65 _ _ c74) wl_214 wl_185 wl_186 wl_164 wl_182 hd_X9_fail ⟨Nat.le_of_ble_eq_true rfl, Nat.le_of_ble_eq_true rfl⟩ ⟨Nat.le_refl _, Nat.le_refl _⟩ (Nat.le_of_ble_eq_true rfl) rfl dX1_readLine_74 ?_
        refine x_goto F (tgt := 102) dX1_readLine_77 (by decide) ?_
        obtain ⟨rfl, rfl⟩ := retS h
        exact x_vret F hr hl dX1_readLine_102
  have J23 : ∀ (v0 : Nat) (v1 : Nat) (s0 : Int32) (M : Mem), fX1_readLine_J23 N v0 v1 s0 M = some (r, Mf) → X p l e ({ frames := 5, cells := 0, slots := 0, locals := 100 * 5 }) s m args below meth c (MQ below (Qm b D cy none Mf) args s 0 0 (fun q => b ≤ q)) 3 b D cy 0 0 M 23 [(0, .ref (b + v0)), (1, .ref (b + v1))] [.int s0] := by
    intro v0 v1 s0 M h
    unfold fX1_readLine_J23 at h
    refine x_istore_n F (lv' := [(2, .int s0), (0, .ref (b + v0)), (1, .ref (b + v1))]) dX1_readLine_23 rfl (by decide) rfl ?_
    refine x_iload_n F dX1_readLine_24 rfl 0 rfl ?_
    refine x_if_ne F (tgt := 43) dX1_readLine_25 (by decide) (fun c25 => ?_) (fun c25 => ?_)
    · rw [if_neg c25] at h
      refine x_sub [1, 2, 0] rfl ?_
      exact J43 v0 v1 s0 M h
    · rw [if_pos c25] at h
      refine x_aload_n F dX1_readLine_28 rfl 2 rfl ?_
      obtain ⟨k29, h⟩ := gdS h
      obtain ⟨⟨x29, M29⟩, c29, h⟩ := bdS h
      dsimp only at h
      refine x_callV F (As := []) (rest := []) (res := (some (.int x29))) (ci := 9) (q := (RX9, TX9, 12)) rfl (by decide) k29 (k_X9_atName l b D cy N v1 M _ _ c29) wl_213 wl_189 wl_190 wl_164 wl_181 hd_X9_atName ⟨Nat.le_of_ble_eq_true rfl, Nat.le_of_ble_eq_true rfl⟩ ⟨Nat.le_refl _, Nat.le_refl _⟩ (Nat.le_of_ble_eq_true rfl) rfl dX1_readLine_29 ?_
      refine x_if_ne F (tgt := 43) dX1_readLine_32 (by decide) (fun c32 => ?_) (fun c32 => ?_)
      · rw [if_neg c32] at h
        refine x_sub [1, 2, 0] rfl ?_
        exact J43 v0 v1 s0 M29 h
      · rw [if_pos c32] at h
        refine x_aload_n F dX1_readLine_35 rfl 2 rfl ?_
        refine x_iconst F (v := 1) dX1_readLine_36 (by decide) ?_
        obtain ⟨k37, h⟩ := gdS h
        obtain ⟨⟨u37, M37⟩, c37, h⟩ := bdS h
        dsimp only at h
        refine x_callV F (As := [.int 1]) (rest := []) (res := none) (ci := 9) (q := (RX9, TX9, 12)) rfl (by decide) k37 (k_X9_fail l b D cy N v1 1 M29 _ _ c37) wl_214 wl_185 wl_186 wl_164 wl_182 hd_X9_fail ⟨Nat.le_of_ble_eq_true rfl, Nat.le_of_ble_eq_true rfl⟩ ⟨Nat.le_refl _, Nat.le_refl _⟩ (Nat.le_of_ble_eq_true rfl) rfl dX1_readLine_37 ?_
        refine x_goto F (tgt := 102) dX1_readLine_40 (by decide) ?_
        obtain ⟨rfl, rfl⟩ := retS h
        exact x_vret F hr hl dX1_readLine_102
  have J18 : ∀ (v0 : Nat) (v1 : Nat) (M : Mem), fX1_readLine_J18 N v0 v1 M = some (r, Mf) → X p l e ({ frames := 5, cells := 0, slots := 0, locals := 100 * 5 }) s m args below meth c (MQ below (Qm b D cy none Mf) args s 0 0 (fun q => b ≤ q)) 3 b D cy 0 0 M 18 [(0, .ref (b + v0)), (1, .ref (b + v1))] [] := by
    intro v0 v1 M h
    unfold fX1_readLine_J18 at h
    refine x_iconst F (v := 1) dX1_readLine_18 (by decide) ?_
    refine x_goto F (tgt := 23) dX1_readLine_19 (by decide) ?_
    exact J23 v0 v1 1 M h
  show X p l e ({ frames := 5, cells := 0, slots := 0, locals := 100 * 5 }) s m args below meth c (MQ below (Qm b D cy none Mf) args s 0 0 (fun q => b ≤ q)) 3 b D cy 0 0 M 0 [(0, .ref (b + v0)), (1, .ref (b + v1))] []
  refine x_aload_n F dX1_readLine_0 rfl 1 rfl ?_
  obtain ⟨x1, c1, h⟩ := bdS h
  refine x_getI F (ci := 9) (C := RX9) (T := TX9) (N := 12) rfl ⟨by decide, rfl⟩ inU9 9 (by decide) (fun _ _ _ => rfl) wl_195 c1 dX1_readLine_1 ?_
  refine x_bipush F (v := 6) dX1_readLine_4 (by decide) ?_
  refine x_icmp_eq F (tgt := 18) dX1_readLine_6 (by decide) (fun c6 => ?_) (fun c6 => ?_)
  · rw [if_pos c6] at h
    exact J18 v0 v1 M h
  · rw [if_neg c6] at h
    refine x_aload_n F dX1_readLine_9 rfl 1 rfl ?_
    obtain ⟨x10, c10, h⟩ := bdS h
    refine x_getI F (ci := 9) (C := RX9) (T := TX9) (N := 12) rfl ⟨by decide, rfl⟩ inU9 9 (by decide) (fun _ _ _ => rfl) wl_195 c10 dX1_readLine_10 ?_
    refine x_bipush F (v := 7) dX1_readLine_13 (by decide) ?_
    refine x_icmp_ne F (tgt := 22) dX1_readLine_15 (by decide) (fun c15 => ?_) (fun c15 => ?_)
    · rw [if_neg c15] at h
      refine x_iconst F (v := 0) dX1_readLine_22 (by decide) ?_
      exact J23 v0 v1 0 M h
    · rw [if_pos c15] at h
      exact J18 v0 v1 M h
theorem dX9_startReading_0 : decode cX9_startReading 0 = .ok (.aload_n 0, 1) := by decide +kernel
theorem dX9_startReading_1 : decode cX9_startReading 1 = .ok (.iload_n 1, 1) := by decide +kernel
theorem dX9_startReading_2 : decode cX9_startReading 2 = .ok (.putfield 23, 3) := by decide +kernel
theorem dX9_startReading_5 : decode cX9_startReading 5 = .ok (.aload_n 0, 1) := by decide +kernel
theorem dX9_startReading_6 : decode cX9_startReading 6 = .ok (.iconst 0, 1) := by decide +kernel
theorem dX9_startReading_7 : decode cX9_startReading 7 = .ok (.putfield 26, 3) := by decide +kernel
theorem dX9_startReading_10 : decode cX9_startReading 10 = .ok (.aload_n 0, 1) := by decide +kernel
theorem dX9_startReading_11 : decode cX9_startReading 11 = .ok (.iconst 0, 1) := by decide +kernel
theorem dX9_startReading_12 : decode cX9_startReading 12 = .ok (.putfield 45, 3) := by decide +kernel
theorem dX9_startReading_15 : decode cX9_startReading 15 = .ok (.aload_n 0, 1) := by decide +kernel
theorem dX9_startReading_16 : decode cX9_startReading 16 = .ok (.iconst 0, 1) := by decide +kernel
theorem dX9_startReading_17 : decode cX9_startReading 17 = .ok (.putfield 48, 3) := by decide +kernel
theorem dX9_startReading_20 : decode cX9_startReading 20 = .ok (.aload_n 0, 1) := by decide +kernel
theorem dX9_startReading_21 : decode cX9_startReading 21 = .ok (.invokevirtual 64, 3) := by decide +kernel
theorem dX9_startReading_24 : decode cX9_startReading 24 = .ok (.return_, 1) := by decide +kernel
def fX9_startReading (N : Nat) (v0 : Nat) (v1 : Int32) (M : Mem) : Option (Unit × Mem) := ((pI M 9 v0 3 v1).bind fun M2 => ((pI M2 9 v0 4 0).bind fun M7 => ((pI M7 9 v0 10 0).bind fun M12 => ((pI M12 9 v0 11 0).bind fun M17 => (if mK M17 v0 = 10 then ((fX9_advance N v0 M17).bind fun (u21, M21) => some ((), M21)) else none)))))
set_option maxHeartbeats 4000000 in
set_option maxRecDepth 100000 in
theorem k_X9_startReading (l : Launch) (b : Nat) (D : va_G) (cy : Nat → ClassId) (N : Nat) (v0 : Nat) (v1 : Int32) (M : Mem) (r : Unit) (Mf : Mem) (h : fX9_startReading N v0 v1 M = some (r, Mf)) : Ct l yX9_startReading cX9_startReading 2 none 3 0 0 b D cy [.ref (b + v0), .int v1] M none Mf := by
  refine Ct_of (own := RX9) (by decide) rfl (Nat.le_of_ble_eq_true rfl) ?_
  intro p e s m args below meth c F hr hl hmn
  unfold fX9_startReading at h
  show X p l e ({ frames := 3, cells := 0, slots := 0, locals := 100 * 3 }) s m args below meth c (MQ below (Qm b D cy none Mf) args s 0 0 (fun q => b ≤ q)) 2 b D cy 0 0 M 0 [(0, .ref (b + v0)), (1, .int v1)] []
  refine x_aload_n F dX9_startReading_0 rfl 0 rfl ?_
  refine x_iload_n F dX9_startReading_1 rfl 1 rfl ?_
  obtain ⟨M2, c2, h⟩ := bdS h
  refine x_putI F (ci := 9) (C := RX9) (T := TX9) (N := 12) rfl ⟨by decide, rfl⟩ inU9 tyX9_ok nmX9 3 (by decide) rfl rfl wl_159 c2 dX9_startReading_2 ?_
  refine x_aload_n F dX9_startReading_5 rfl 0 rfl ?_
  refine x_iconst F (v := 0) dX9_startReading_6 (by decide) ?_
  obtain ⟨M7, c7, h⟩ := bdS h
  refine x_putI F (ci := 9) (C := RX9) (T := TX9) (N := 12) rfl ⟨by decide, rfl⟩ inU9 tyX9_ok nmX9 4 (by decide) rfl rfl wl_147 c7 dX9_startReading_7 ?_
  refine x_aload_n F dX9_startReading_10 rfl 0 rfl ?_
  refine x_iconst F (v := 0) dX9_startReading_11 (by decide) ?_
  obtain ⟨M12, c12, h⟩ := bdS h
  refine x_putI F (ci := 9) (C := RX9) (T := TX9) (N := 12) rfl ⟨by decide, rfl⟩ inU9 tyX9_ok nmX9 10 (by decide) rfl rfl wl_175 c12 dX9_startReading_12 ?_
  refine x_aload_n F dX9_startReading_15 rfl 0 rfl ?_
  refine x_iconst F (v := 0) dX9_startReading_16 (by decide) ?_
  obtain ⟨M17, c17, h⟩ := bdS h
  refine x_putI F (ci := 9) (C := RX9) (T := TX9) (N := 12) rfl ⟨by decide, rfl⟩ inU9 tyX9_ok nmX9 11 (by decide) rfl rfl wl_176 c17 dX9_startReading_17 ?_
  refine x_aload_n F dX9_startReading_20 rfl 0 rfl ?_
  obtain ⟨k21, h⟩ := gdS h
  obtain ⟨⟨u21, M21⟩, c21, h⟩ := bdS h
  dsimp only at h
  refine x_callV F (As := []) (rest := []) (res := none) (ci := 9) (q := (RX9, TX9, 12)) rfl (by decide) k21 (k_X9_advance l b D cy N v0 M17 _ _ c21) wl_177 wl_178 wl_179 wl_164 wl_174 hd_X9_advance ⟨Nat.le_of_ble_eq_true rfl, Nat.le_of_ble_eq_true rfl⟩ ⟨Nat.le_refl _, Nat.le_refl _⟩ (Nat.le_of_ble_eq_true rfl) rfl dX9_startReading_21 ?_
  obtain ⟨rfl, rfl⟩ := retS h
  exact x_vret F hr hl dX9_startReading_24
theorem dX9_atMark_0 : decode cX9_atMark 0 = .ok (.aload_n 0, 1) := by decide +kernel
theorem dX9_atMark_1 : decode cX9_atMark 1 = .ok (.getfield 29, 3) := by decide +kernel
theorem dX9_atMark_4 : decode cX9_atMark 4 = .ok (.iconst 3, 1) := by decide +kernel
theorem dX9_atMark_5 : decode cX9_atMark 5 = .ok (.if_icmp .ne 15, 3) := by decide +kernel
theorem dX9_atMark_8 : decode cX9_atMark 8 = .ok (.aload_n 0, 1) := by decide +kernel
theorem dX9_atMark_9 : decode cX9_atMark 9 = .ok (.getfield 35, 3) := by decide +kernel
theorem dX9_atMark_12 : decode cX9_atMark 12 = .ok (.iload_n 1, 1) := by decide +kernel
theorem dX9_atMark_13 : decode cX9_atMark 13 = .ok (.if_icmp .ne 7, 3) := by decide +kernel
theorem dX9_atMark_16 : decode cX9_atMark 16 = .ok (.iconst 1, 1) := by decide +kernel
theorem dX9_atMark_17 : decode cX9_atMark 17 = .ok (.goto 4, 3) := by decide +kernel
theorem dX9_atMark_20 : decode cX9_atMark 20 = .ok (.iconst 0, 1) := by decide +kernel
theorem dX9_atMark_21 : decode cX9_atMark 21 = .ok (.ireturn, 1) := by decide +kernel
def fX9_atMark (N : Nat) (v0 : Nat) (v1 : Int32) (M : Mem) : Option (Int32 × Mem) := ((fI M 9 v0 5).bind fun x1 => (if x1 = 3 then ((fI M 9 v0 7).bind fun x9 => (if x9 = v1 then some (1, M) else some (0, M))) else some (0, M)))
set_option maxHeartbeats 4000000 in
set_option maxRecDepth 100000 in
theorem k_X9_atMark (l : Launch) (b : Nat) (D : va_G) (cy : Nat → ClassId) (N : Nat) (v0 : Nat) (v1 : Int32) (M : Mem) (r : Int32) (Mf : Mem) (h : fX9_atMark N v0 v1 M = some (r, Mf)) : Ct l yX9_atMark cX9_atMark 2 (some .boolean) 1 0 0 b D cy [.ref (b + v0), .int v1] M (some (.int r)) Mf := by
  refine Ct_of (own := RX9) (by decide) rfl (Nat.le_of_ble_eq_true rfl) ?_
  intro p e s m args below meth c F hr hl hmn
  unfold fX9_atMark at h
  show X p l e ({ frames := 1, cells := 0, slots := 0, locals := 100 * 1 }) s m args below meth c (MQ below (Qm b D cy (some (.int r)) Mf) args s 0 0 (fun q => b ≤ q)) 2 b D cy 0 0 M 0 [(0, .ref (b + v0)), (1, .int v1)] []
  refine x_aload_n F dX9_atMark_0 rfl 0 rfl ?_
  obtain ⟨x1, c1, h⟩ := bdS h
  refine x_getI F (ci := 9) (C := RX9) (T := TX9) (N := 12) rfl ⟨by decide, rfl⟩ inU9 5 (by decide) (fun _ _ _ => rfl) wl_154 c1 dX9_atMark_1 ?_
  refine x_iconst F (v := 3) dX9_atMark_4 (by decide) ?_
  refine x_icmp_ne F (tgt := 20) dX9_atMark_5 (by decide) (fun c5 => ?_) (fun c5 => ?_)
  · rw [if_neg c5] at h
    refine x_iconst F (v := 0) dX9_atMark_20 (by decide) ?_
    obtain ⟨rfl, rfl⟩ := retS h
    exact x_zret F hr hl (by decide) dX9_atMark_21
  · rw [if_pos c5] at h
    refine x_aload_n F dX9_atMark_8 rfl 0 rfl ?_
    obtain ⟨x9, c9, h⟩ := bdS h
    refine x_getI F (ci := 9) (C := RX9) (T := TX9) (N := 12) rfl ⟨by decide, rfl⟩ inU9 7 (by decide) (fun _ _ _ => rfl) wl_152 c9 dX9_atMark_9 ?_
    refine x_iload_n F dX9_atMark_12 rfl 1 rfl ?_
    refine x_icmp_ne F (tgt := 20) dX9_atMark_13 (by decide) (fun c13 => ?_) (fun c13 => ?_)
    · rw [if_neg c13] at h
      refine x_iconst F (v := 0) dX9_atMark_20 (by decide) ?_
      obtain ⟨rfl, rfl⟩ := retS h
      exact x_zret F hr hl (by decide) dX9_atMark_21
    · rw [if_pos c13] at h
      refine x_iconst F (v := 1) dX9_atMark_16 (by decide) ?_
      refine x_goto F (tgt := 21) dX9_atMark_17 (by decide) ?_
      obtain ⟨rfl, rfl⟩ := retS h
      exact x_zret F hr hl (by decide) dX9_atMark_21
theorem hd_X9_atMark : (yX9_atMark).cls = RX9 ∧ (yX9_atMark).cls ≠ "java/lang/invoke/MethodHandle" ∧ (yX9_atMark).cls ≠ "java/lang/invoke/VarHandle" ∧ (parseMethodDescriptor (yX9_atMark).desc).map (fun d => d.parameters.length) = some 1 := by decide +kernel
theorem dX9_takeMark_0 : decode cX9_takeMark 0 = .ok (.aload_n 0, 1) := by decide +kernel
theorem dX9_takeMark_1 : decode cX9_takeMark 1 = .ok (.getfield 45, 3) := by decide +kernel
theorem dX9_takeMark_4 : decode cX9_takeMark 4 = .ok (.ifCond .ne 18, 3) := by decide +kernel
theorem dX9_takeMark_7 : decode cX9_takeMark 7 = .ok (.aload_n 0, 1) := by decide +kernel
theorem dX9_takeMark_8 : decode cX9_takeMark 8 = .ok (.iload_n 1, 1) := by decide +kernel
theorem dX9_takeMark_9 : decode cX9_takeMark 9 = .ok (.invokevirtual 79, 3) := by decide +kernel
theorem dX9_takeMark_12 : decode cX9_takeMark 12 = .ok (.ifCond .eq 10, 3) := by decide +kernel
theorem dX9_takeMark_15 : decode cX9_takeMark 15 = .ok (.aload_n 0, 1) := by decide +kernel
theorem dX9_takeMark_16 : decode cX9_takeMark 16 = .ok (.invokevirtual 64, 3) := by decide +kernel
theorem dX9_takeMark_19 : decode cX9_takeMark 19 = .ok (.goto 8, 3) := by decide +kernel
theorem dX9_takeMark_22 : decode cX9_takeMark 22 = .ok (.aload_n 0, 1) := by decide +kernel
theorem dX9_takeMark_23 : decode cX9_takeMark 23 = .ok (.iconst 1, 1) := by decide +kernel
theorem dX9_takeMark_24 : decode cX9_takeMark 24 = .ok (.invokevirtual 83, 3) := by decide +kernel
theorem dX9_takeMark_27 : decode cX9_takeMark 27 = .ok (.return_, 1) := by decide +kernel
def fX9_takeMark (N : Nat) (v0 : Nat) (v1 : Int32) (M : Mem) : Option (Unit × Mem) := ((fI M 9 v0 10).bind fun x1 => (if x1 = 0 then (if mK M v0 = 10 then ((fX9_atMark N v0 v1 M).bind fun (x9, M9) => (if x9 = 0 then (if mK M9 v0 = 10 then ((fX9_fail N v0 1 M9).bind fun (u24, M24) => some ((), M24)) else none) else (if mK M9 v0 = 10 then ((fX9_advance N v0 M9).bind fun (u16, M16) => some ((), M16)) else none))) else none) else (if mK M v0 = 10 then ((fX9_fail N v0 1 M).bind fun (u24, M24) => some ((), M24)) else none)))
set_option maxHeartbeats 4000000 in
set_option maxRecDepth 100000 in
theorem k_X9_takeMark (l : Launch) (b : Nat) (D : va_G) (cy : Nat → ClassId) (N : Nat) (v0 : Nat) (v1 : Int32) (M : Mem) (r : Unit) (Mf : Mem) (h : fX9_takeMark N v0 v1 M = some (r, Mf)) : Ct l yX9_takeMark cX9_takeMark 2 none 3 0 0 b D cy [.ref (b + v0), .int v1] M none Mf := by
  refine Ct_of (own := RX9) (by decide) rfl (Nat.le_of_ble_eq_true rfl) ?_
  intro p e s m args below meth c F hr hl hmn
  unfold fX9_takeMark at h
  show X p l e ({ frames := 3, cells := 0, slots := 0, locals := 100 * 3 }) s m args below meth c (MQ below (Qm b D cy none Mf) args s 0 0 (fun q => b ≤ q)) 2 b D cy 0 0 M 0 [(0, .ref (b + v0)), (1, .int v1)] []
  refine x_aload_n F dX9_takeMark_0 rfl 0 rfl ?_
  obtain ⟨x1, c1, h⟩ := bdS h
  refine x_getI F (ci := 9) (C := RX9) (T := TX9) (N := 12) rfl ⟨by decide, rfl⟩ inU9 10 (by decide) (fun _ _ _ => rfl) wl_175 c1 dX9_takeMark_1 ?_
  refine x_if_ne F (tgt := 22) dX9_takeMark_4 (by decide) (fun c4 => ?_) (fun c4 => ?_)
  · rw [if_neg c4] at h
    refine x_aload_n F dX9_takeMark_22 rfl 0 rfl ?_
    refine x_iconst F (v := 1) dX9_takeMark_23 (by decide) ?_
    obtain ⟨k24, h⟩ := gdS h
    obtain ⟨⟨u24, M24⟩, c24, h⟩ := bdS h
    dsimp only at h
    refine x_callV F (As := [.int 1]) (rest := []) (res := none) (ci := 9) (q := (RX9, TX9, 12)) rfl (by decide) k24 (k_X9_fail l b D cy N v0 1 M _ _ c24) wl_184 wl_185 wl_186 wl_164 wl_182 hd_X9_fail ⟨Nat.le_of_ble_eq_true rfl, Nat.le_of_ble_eq_true rfl⟩ ⟨Nat.le_refl _, Nat.le_refl _⟩ (Nat.le_of_ble_eq_true rfl) rfl dX9_takeMark_24 ?_
    obtain ⟨rfl, rfl⟩ := retS h
    exact x_vret F hr hl dX9_takeMark_27
  · rw [if_pos c4] at h
    refine x_aload_n F dX9_takeMark_7 rfl 0 rfl ?_
    refine x_iload_n F dX9_takeMark_8 rfl 1 rfl ?_
    obtain ⟨k9, h⟩ := gdS h
    obtain ⟨⟨x9, M9⟩, c9, h⟩ := bdS h
    dsimp only at h
    refine x_callV F (As := [.int v1]) (rest := []) (res := (some (.int x9))) (ci := 9) (q := (RX9, TX9, 12)) rfl (by decide) k9 (k_X9_atMark l b D cy N v0 v1 M _ _ c9) wl_222 wl_223 wl_224 wl_164 wl_221 hd_X9_atMark ⟨Nat.le_of_ble_eq_true rfl, Nat.le_of_ble_eq_true rfl⟩ ⟨Nat.le_refl _, Nat.le_refl _⟩ (Nat.le_of_ble_eq_true rfl) rfl dX9_takeMark_9 ?_
    refine x_if_eq F (tgt := 22) dX9_takeMark_12 (by decide) (fun c12 => ?_) (fun c12 => ?_)
    · rw [if_pos c12] at h
      refine x_aload_n F dX9_takeMark_22 rfl 0 rfl ?_
      refine x_iconst F (v := 1) dX9_takeMark_23 (by decide) ?_
      obtain ⟨k24, h⟩ := gdS h
      obtain ⟨⟨u24, M24⟩, c24, h⟩ := bdS h
      dsimp only at h
      refine x_callV F (As := [.int 1]) (rest := []) (res := none) (ci := 9) (q := (RX9, TX9, 12)) rfl (by decide) k24 (k_X9_fail l b D cy N v0 1 M9 _ _ c24) wl_184 wl_185 wl_186 wl_164 wl_182 hd_X9_fail ⟨Nat.le_of_ble_eq_true rfl, Nat.le_of_ble_eq_true rfl⟩ ⟨Nat.le_refl _, Nat.le_refl _⟩ (Nat.le_of_ble_eq_true rfl) rfl dX9_takeMark_24 ?_
      obtain ⟨rfl, rfl⟩ := retS h
      exact x_vret F hr hl dX9_takeMark_27
    · rw [if_neg c12] at h
      refine x_aload_n F dX9_takeMark_15 rfl 0 rfl ?_
      obtain ⟨k16, h⟩ := gdS h
      obtain ⟨⟨u16, M16⟩, c16, h⟩ := bdS h
      dsimp only at h
      refine x_callV F (As := []) (rest := []) (res := none) (ci := 9) (q := (RX9, TX9, 12)) rfl (by decide) k16 (k_X9_advance l b D cy N v0 M9 _ _ c16) wl_177 wl_178 wl_179 wl_164 wl_174 hd_X9_advance ⟨Nat.le_of_ble_eq_true rfl, Nat.le_of_ble_eq_true rfl⟩ ⟨Nat.le_refl _, Nat.le_refl _⟩ (Nat.le_of_ble_eq_true rfl) rfl dX9_takeMark_16 ?_
      refine x_goto F (tgt := 27) dX9_takeMark_19 (by decide) ?_
      obtain ⟨rfl, rfl⟩ := retS h
      exact x_vret F hr hl dX9_takeMark_27
theorem hd_X9_startReading : (yX9_startReading).cls = RX9 ∧ (yX9_startReading).cls ≠ "java/lang/invoke/MethodHandle" ∧ (yX9_startReading).cls ≠ "java/lang/invoke/VarHandle" ∧ (parseMethodDescriptor (yX9_startReading).desc).map (fun d => d.parameters.length) = some 1 := by decide +kernel
theorem hd_X1_readLine : (yX1_readLine).cls = RX1 ∧ (yX1_readLine).cls ≠ "java/lang/invoke/MethodHandle" ∧ (yX1_readLine).cls ≠ "java/lang/invoke/VarHandle" ∧ (parseMethodDescriptor (yX1_readLine).desc).map (fun d => d.parameters.length) = some 1 := by decide +kernel
theorem hd_X9_takeMark : (yX9_takeMark).cls = RX9 ∧ (yX9_takeMark).cls ≠ "java/lang/invoke/MethodHandle" ∧ (yX9_takeMark).cls ≠ "java/lang/invoke/VarHandle" ∧ (parseMethodDescriptor (yX9_takeMark).desc).map (fun d => d.parameters.length) = some 1 := by decide +kernel
theorem dX1_readFrom_0 : decode cX1_readFrom 0 = .ok (.aload_n 0, 1) := by decide +kernel
theorem dX1_readFrom_1 : decode cX1_readFrom 1 = .ok (.iconst 0, 1) := by decide +kernel
theorem dX1_readFrom_2 : decode cX1_readFrom 2 = .ok (.putfield 27, 3) := by decide +kernel
theorem dX1_readFrom_5 : decode cX1_readFrom 5 = .ok (.aload_n 1, 1) := by decide +kernel
theorem dX1_readFrom_6 : decode cX1_readFrom 6 = .ok (.sipush 400, 3) := by decide +kernel
theorem dX1_readFrom_9 : decode cX1_readFrom 9 = .ok (.invokevirtual 47, 3) := by decide +kernel
theorem dX1_readFrom_12 : decode cX1_readFrom 12 = .ok (.iconst 0, 1) := by decide +kernel
theorem dX1_readFrom_13 : decode cX1_readFrom 13 = .ok (.istore_n 2, 1) := by decide +kernel
theorem dX1_readFrom_14 : decode cX1_readFrom 14 = .ok (.iload_n 2, 1) := by decide +kernel
theorem dX1_readFrom_15 : decode cX1_readFrom 15 = .ok (.bipush 40, 2) := by decide +kernel
theorem dX1_readFrom_17 : decode cX1_readFrom 17 = .ok (.if_icmp .gt 34, 3) := by decide +kernel
theorem dX1_readFrom_20 : decode cX1_readFrom 20 = .ok (.aload_n 1, 1) := by decide +kernel
theorem dX1_readFrom_21 : decode cX1_readFrom 21 = .ok (.getfield 53, 3) := by decide +kernel
theorem dX1_readFrom_24 : decode cX1_readFrom 24 = .ok (.ifCond .ne 27, 3) := by decide +kernel
theorem dX1_readFrom_27 : decode cX1_readFrom 27 = .ok (.aload_n 1, 1) := by decide +kernel
theorem dX1_readFrom_28 : decode cX1_readFrom 28 = .ok (.getfield 56, 3) := by decide +kernel
theorem dX1_readFrom_31 : decode cX1_readFrom 31 = .ok (.ifCond .eq 20, 3) := by decide +kernel
theorem dX1_readFrom_34 : decode cX1_readFrom 34 = .ok (.aload_n 0, 1) := by decide +kernel
theorem dX1_readFrom_35 : decode cX1_readFrom 35 = .ok (.aload_n 1, 1) := by decide +kernel
theorem dX1_readFrom_36 : decode cX1_readFrom 36 = .ok (.invokevirtual 59, 3) := by decide +kernel
theorem dX1_readFrom_39 : decode cX1_readFrom 39 = .ok (.aload_n 1, 1) := by decide +kernel
theorem dX1_readFrom_40 : decode cX1_readFrom 40 = .ok (.bipush 59, 2) := by decide +kernel
theorem dX1_readFrom_42 : decode cX1_readFrom 42 = .ok (.invokevirtual 63, 3) := by decide +kernel
theorem dX1_readFrom_45 : decode cX1_readFrom 45 = .ok (.iinc 2 1, 3) := by decide +kernel
theorem dX1_readFrom_48 : decode cX1_readFrom 48 = .ok (.goto (-34), 3) := by decide +kernel
theorem dX1_readFrom_51 : decode cX1_readFrom 51 = .ok (.return_, 1) := by decide +kernel
def fX1_readFrom_L14 (N : Nat) (v0 : Nat) (v1 : Nat) : Nat → Int32 → Mem → Option (Mem)
  | 0, _, _ => none
  | n + 1, v2, M => (if 40 < v2 then some M else ((fI M 9 v1 10).bind fun x21 => (if x21 = 0 then ((fI M 9 v1 5).bind fun x28 => (if x28 = 0 then some M else (if mK M v0 = 2 then ((fX1_readLine N v0 v1 M).bind fun (u36, M36) => (if mK M36 v1 = 10 then ((fX9_takeMark N v1 59 M36).bind fun (u42, M42) => fX1_readFrom_L14 N v0 v1 n (v2 + 1) M42) else none)) else none))) else some M)))
def fX1_readFrom (N : Nat) (v0 : Nat) (v1 : Nat) (M : Mem) : Option (Unit × Mem) := ((pI M 1 v0 6 0).bind fun M2 => (if mK M2 v1 = 10 then ((fX9_startReading N v1 400 M2).bind fun (u9, M9) => ((fX1_readFrom_L14 N v0 v1 N 0 M9).bind fun o14 => some ((), o14))) else none))
set_option maxHeartbeats 4000000 in
set_option maxRecDepth 100000 in
theorem k_X1_readFrom (l : Launch) (b : Nat) (D : va_G) (cy : Nat → ClassId) (N : Nat) (v0 : Nat) (v1 : Nat) (M : Mem) (r : Unit) (Mf : Mem) (h : fX1_readFrom N v0 v1 M = some (r, Mf)) : Ct l yX1_readFrom cX1_readFrom 3 none 6 0 0 b D cy [.ref (b + v0), .ref (b + v1)] M none Mf := by
  refine Ct_of (own := RX1) (by decide) rfl (Nat.le_of_ble_eq_true rfl) ?_
  intro p e s m args below meth c F hr hl hmn
  unfold fX1_readFrom at h
  show X p l e ({ frames := 6, cells := 0, slots := 0, locals := 100 * 6 }) s m args below meth c (MQ below (Qm b D cy none Mf) args s 0 0 (fun q => b ≤ q)) 3 b D cy 0 0 M 0 [(0, .ref (b + v0)), (1, .ref (b + v1))] []
  refine x_aload_n F dX1_readFrom_0 rfl 0 rfl ?_
  refine x_iconst F (v := 0) dX1_readFrom_1 (by decide) ?_
  obtain ⟨M2, c2, h⟩ := bdS h
  refine x_putI F (ci := 1) (C := RX1) (T := TX1) (N := 11) rfl ⟨by decide, rfl⟩ inU1 tyX1_ok nmX1 6 (by decide) rfl rfl wl_140 c2 dX1_readFrom_2 ?_
  refine x_aload_n F dX1_readFrom_5 rfl 1 rfl ?_
  refine x_sipush F (v := 400) dX1_readFrom_6 (by decide) ?_
  obtain ⟨k9, h⟩ := gdS h
  obtain ⟨⟨u9, M9⟩, c9, h⟩ := bdS h
  dsimp only at h
  refine x_callV F (As := [.int 400]) (rest := []) (res := none) (ci := 9) (q := (RX9, TX9, 12)) rfl (by decide) k9 (k_X9_startReading l b D cy N v1 400 M2 _ _ c9) wl_227 wl_228 wl_229 wl_164 wl_180 hd_X9_startReading ⟨Nat.le_of_ble_eq_true rfl, Nat.le_of_ble_eq_true rfl⟩ ⟨Nat.le_refl _, Nat.le_refl _⟩ (Nat.le_of_ble_eq_true rfl) rfl dX1_readFrom_9 ?_
  refine x_iconst F (v := 0) dX1_readFrom_12 (by decide) ?_
  refine x_istore_n F (lv' := [(2, .int 0), (0, .ref (b + v0)), (1, .ref (b + v1))]) dX1_readFrom_13 rfl (by decide) rfl ?_
  have L14 : ∀ (v0 : Nat) (v1 : Nat) (n : Nat) (v2 : Int32) (M : Mem) (o : Mem), fX1_readFrom_L14 N v0 v1 n v2 M = some o → X p l e ({ frames := 6, cells := 0, slots := 0, locals := 100 * 6 }) s m args below meth c (MQ below (Qm b D cy none Mf) args s 0 0 (fun q => b ≤ q)) 3 b D cy 0 0 o 51 [] [] → X p l e ({ frames := 6, cells := 0, slots := 0, locals := 100 * 6 }) s m args below meth c (MQ below (Qm b D cy none Mf) args s 0 0 (fun q => b ≤ q)) 3 b D cy 0 0 M 14 [(0, .ref (b + v0)), (1, .ref (b + v1)), (2, .int v2)] [] := by
    intro v0 v1 n
    induction n with
    | zero => intro v2 M o h; exact absurd h (by rw [fX1_readFrom_L14]; exact fun z => by cases z)
    | succ n ih =>
      intro v2 M o h hE
      rw [fX1_readFrom_L14] at h
      refine x_iload_n F dX1_readFrom_14 rfl 2 rfl ?_
      refine x_bipush F (v := 40) dX1_readFrom_15 (by decide) ?_
      refine x_icmp_gt F (tgt := 51) dX1_readFrom_17 (by decide) (fun c17 => ?_) (fun c17 => ?_)
      · rw [if_pos c17] at h
        obtain rfl := Option.some.inj h
        refine x_sub [] rfl ?_
        exact hE
      · rw [if_neg c17] at h
        refine x_aload_n F dX1_readFrom_20 rfl 1 rfl ?_
        obtain ⟨x21, c21, h⟩ := bdS h
        refine x_getI F (ci := 9) (C := RX9) (T := TX9) (N := 12) rfl ⟨by decide, rfl⟩ inU9 10 (by decide) (fun _ _ _ => rfl) wl_200 c21 dX1_readFrom_21 ?_
        refine x_if_ne F (tgt := 51) dX1_readFrom_24 (by decide) (fun c24 => ?_) (fun c24 => ?_)
        · rw [if_neg c24] at h
          obtain rfl := Option.some.inj h
          refine x_sub [] rfl ?_
          exact hE
        · rw [if_pos c24] at h
          refine x_aload_n F dX1_readFrom_27 rfl 1 rfl ?_
          obtain ⟨x28, c28, h⟩ := bdS h
          refine x_getI F (ci := 9) (C := RX9) (T := TX9) (N := 12) rfl ⟨by decide, rfl⟩ inU9 5 (by decide) (fun _ _ _ => rfl) wl_226 c28 dX1_readFrom_28 ?_
          refine x_if_eq F (tgt := 51) dX1_readFrom_31 (by decide) (fun c31 => ?_) (fun c31 => ?_)
          · rw [if_pos c31] at h
            obtain rfl := Option.some.inj h
            refine x_sub [] rfl ?_
            exact hE
          · rw [if_neg c31] at h
            refine x_aload_n F dX1_readFrom_34 rfl 0 rfl ?_
            refine x_aload_n F dX1_readFrom_35 rfl 1 rfl ?_
            obtain ⟨k36, h⟩ := gdS h
            obtain ⟨⟨u36, M36⟩, c36, h⟩ := bdS h
            dsimp only at h
            refine x_callV F (As := [.ref (b + v1)]) (rest := []) (res := none) (ci := 1) (q := (RX1, TX1, 11)) rfl (by decide) k36 (k_X1_readLine l b D cy N v0 v1 M _ _ c36) wl_230 wl_231 wl_232 wl_219 wl_220 hd_X1_readLine ⟨Nat.le_of_ble_eq_true rfl, Nat.le_of_ble_eq_true rfl⟩ ⟨Nat.le_refl _, Nat.le_refl _⟩ (Nat.le_of_ble_eq_true rfl) rfl dX1_readFrom_36 ?_
            refine x_aload_n F dX1_readFrom_39 rfl 1 rfl ?_
            refine x_bipush F (v := 59) dX1_readFrom_40 (by decide) ?_
            obtain ⟨k42, h⟩ := gdS h
            obtain ⟨⟨u42, M42⟩, c42, h⟩ := bdS h
            dsimp only at h
            refine x_callV F (As := [.int 59]) (rest := []) (res := none) (ci := 9) (q := (RX9, TX9, 12)) rfl (by decide) k42 (k_X9_takeMark l b D cy N v1 59 M36 _ _ c42) wl_233 wl_234 wl_235 wl_164 wl_225 hd_X9_takeMark ⟨Nat.le_of_ble_eq_true rfl, Nat.le_of_ble_eq_true rfl⟩ ⟨Nat.le_refl _, Nat.le_refl _⟩ (Nat.le_of_ble_eq_true rfl) rfl dX1_readFrom_42 ?_
            refine x_iinc F (v := v2 + 1) (lv' := [(2, .int (v2 + 1)), (0, .ref (b + v0)), (1, .ref (b + v1))]) dX1_readFrom_45 2 rfl rfl (by decide) rfl ?_
            refine x_goto F (tgt := 14) dX1_readFrom_48 (by decide) ?_
            refine x_sub [1, 2, 0] rfl ?_
            exact ih (v2 + 1) M42 o h hE
  obtain ⟨o14, h14, h⟩ := bdS h
  refine x_sub [1, 2, 0] rfl ?_
  refine L14 v0 v1 N 0 M9 o14 h14 ?_
  obtain ⟨rfl, rfl⟩ := retS h
  exact x_vret F hr hl dX1_readFrom_51
theorem dX8_hasBand_0 : decode cX8_hasBand 0 = .ok (.iload_n 1, 1) := by decide +kernel
theorem dX8_hasBand_1 : decode cX8_hasBand 1 = .ok (.ifCond .lt 15, 3) := by decide +kernel
theorem dX8_hasBand_4 : decode cX8_hasBand 4 = .ok (.iload_n 1, 1) := by decide +kernel
theorem dX8_hasBand_5 : decode cX8_hasBand 5 = .ok (.aload_n 0, 1) := by decide +kernel
theorem dX8_hasBand_6 : decode cX8_hasBand 6 = .ok (.getfield 9, 3) := by decide +kernel
theorem dX8_hasBand_9 : decode cX8_hasBand 9 = .ok (.if_icmp .ge 7, 3) := by decide +kernel
theorem dX8_hasBand_12 : decode cX8_hasBand 12 = .ok (.iconst 1, 1) := by decide +kernel
theorem dX8_hasBand_13 : decode cX8_hasBand 13 = .ok (.goto 4, 3) := by decide +kernel
theorem dX8_hasBand_16 : decode cX8_hasBand 16 = .ok (.iconst 0, 1) := by decide +kernel
theorem dX8_hasBand_17 : decode cX8_hasBand 17 = .ok (.ireturn, 1) := by decide +kernel
def fX8_hasBand (N : Nat) (v0 : Nat) (v1 : Int32) (M : Mem) : Option (Int32 × Mem) := (if v1 < 0 then some (0, M) else ((fI M 8 v0 0).bind fun x6 => (if x6 ≤ v1 then some (0, M) else some (1, M))))
set_option maxHeartbeats 4000000 in
set_option maxRecDepth 100000 in
theorem k_X8_hasBand (l : Launch) (b : Nat) (D : va_G) (cy : Nat → ClassId) (N : Nat) (v0 : Nat) (v1 : Int32) (M : Mem) (r : Int32) (Mf : Mem) (h : fX8_hasBand N v0 v1 M = some (r, Mf)) : Ct l yX8_hasBand cX8_hasBand 2 (some .boolean) 1 0 0 b D cy [.ref (b + v0), .int v1] M (some (.int r)) Mf := by
  refine Ct_of (own := RX8) (by decide) rfl (Nat.le_of_ble_eq_true rfl) ?_
  intro p e s m args below meth c F hr hl hmn
  unfold fX8_hasBand at h
  show X p l e ({ frames := 1, cells := 0, slots := 0, locals := 100 * 1 }) s m args below meth c (MQ below (Qm b D cy (some (.int r)) Mf) args s 0 0 (fun q => b ≤ q)) 2 b D cy 0 0 M 0 [(0, .ref (b + v0)), (1, .int v1)] []
  refine x_iload_n F dX8_hasBand_0 rfl 1 rfl ?_
  refine x_if_lt F (tgt := 16) dX8_hasBand_1 (by decide) (fun c1 => ?_) (fun c1 => ?_)
  · rw [if_pos c1] at h
    refine x_iconst F (v := 0) dX8_hasBand_16 (by decide) ?_
    obtain ⟨rfl, rfl⟩ := retS h
    exact x_zret F hr hl (by decide) dX8_hasBand_17
  · rw [if_neg c1] at h
    refine x_iload_n F dX8_hasBand_4 rfl 1 rfl ?_
    refine x_aload_n F dX8_hasBand_5 rfl 0 rfl ?_
    obtain ⟨x6, c6, h⟩ := bdS h
    refine x_getI F (ci := 8) (C := RX8) (T := TX8) (N := 17) rfl ⟨by decide, rfl⟩ inU8 0 (by decide) (fun _ _ _ => rfl) wl_238 c6 dX8_hasBand_6 ?_
    refine x_icmp_ge F (tgt := 16) dX8_hasBand_9 (by decide) (fun c9 => ?_) (fun c9 => ?_)
    · rw [if_pos c9] at h
      refine x_iconst F (v := 0) dX8_hasBand_16 (by decide) ?_
      obtain ⟨rfl, rfl⟩ := retS h
      exact x_zret F hr hl (by decide) dX8_hasBand_17
    · rw [if_neg c9] at h
      refine x_iconst F (v := 1) dX8_hasBand_12 (by decide) ?_
      refine x_goto F (tgt := 17) dX8_hasBand_13 (by decide) ?_
      obtain ⟨rfl, rfl⟩ := retS h
      exact x_zret F hr hl (by decide) dX8_hasBand_17
theorem hd_X8_hasBand : (yX8_hasBand).cls = RX8 ∧ (yX8_hasBand).cls ≠ "java/lang/invoke/MethodHandle" ∧ (yX8_hasBand).cls ≠ "java/lang/invoke/VarHandle" ∧ (parseMethodDescriptor (yX8_hasBand).desc).map (fun d => d.parameters.length) = some 1 := by decide +kernel
theorem dX8_hasPlace_0 : decode cX8_hasPlace 0 = .ok (.aload_n 0, 1) := by decide +kernel
theorem dX8_hasPlace_1 : decode cX8_hasPlace 1 = .ok (.iload_n 1, 1) := by decide +kernel
theorem dX8_hasPlace_2 : decode cX8_hasPlace 2 = .ok (.invokevirtual 152, 3) := by decide +kernel
theorem dX8_hasPlace_5 : decode cX8_hasPlace 5 = .ok (.ifCond .eq 21, 3) := by decide +kernel
theorem dX8_hasPlace_8 : decode cX8_hasPlace 8 = .ok (.iload_n 2, 1) := by decide +kernel
theorem dX8_hasPlace_9 : decode cX8_hasPlace 9 = .ok (.ifCond .lt 17, 3) := by decide +kernel
theorem dX8_hasPlace_12 : decode cX8_hasPlace 12 = .ok (.iload_n 2, 1) := by decide +kernel
theorem dX8_hasPlace_13 : decode cX8_hasPlace 13 = .ok (.aload_n 0, 1) := by decide +kernel
theorem dX8_hasPlace_14 : decode cX8_hasPlace 14 = .ok (.getfield 23, 3) := by decide +kernel
theorem dX8_hasPlace_17 : decode cX8_hasPlace 17 = .ok (.iload_n 1, 1) := by decide +kernel
theorem dX8_hasPlace_18 : decode cX8_hasPlace 18 = .ok (.iaload, 1) := by decide +kernel
theorem dX8_hasPlace_19 : decode cX8_hasPlace 19 = .ok (.if_icmp .ge 7, 3) := by decide +kernel
theorem dX8_hasPlace_22 : decode cX8_hasPlace 22 = .ok (.iconst 1, 1) := by decide +kernel
theorem dX8_hasPlace_23 : decode cX8_hasPlace 23 = .ok (.goto 4, 3) := by decide +kernel
theorem dX8_hasPlace_26 : decode cX8_hasPlace 26 = .ok (.iconst 0, 1) := by decide +kernel
theorem dX8_hasPlace_27 : decode cX8_hasPlace 27 = .ok (.ireturn, 1) := by decide +kernel
def fX8_hasPlace (N : Nat) (v0 : Nat) (v1 : Int32) (v2 : Int32) (M : Mem) : Option (Int32 × Mem) := (if mK M v0 = 9 then ((fX8_hasBand N v0 v1 M).bind fun (x2, M2) => (if x2 = 0 then some (0, M2) else (if v2 < 0 then some (0, M2) else ((fR M2 8 v0 3).bind fun x14 => ((aI M2 x14 v1).bind fun x18 => (if x18 ≤ v2 then some (0, M2) else some (1, M2))))))) else none)
set_option maxHeartbeats 4000000 in
set_option maxRecDepth 100000 in
theorem k_X8_hasPlace (l : Launch) (b : Nat) (D : va_G) (cy : Nat → ClassId) (N : Nat) (v0 : Nat) (v1 : Int32) (v2 : Int32) (M : Mem) (r : Int32) (Mf : Mem) (h : fX8_hasPlace N v0 v1 v2 M = some (r, Mf)) : Ct l yX8_hasPlace cX8_hasPlace 3 (some .boolean) 2 0 0 b D cy [.ref (b + v0), .int v1, .int v2] M (some (.int r)) Mf := by
  refine Ct_of (own := RX8) (by decide) rfl (Nat.le_of_ble_eq_true rfl) ?_
  intro p e s m args below meth c F hr hl hmn
  unfold fX8_hasPlace at h
  show X p l e ({ frames := 2, cells := 0, slots := 0, locals := 100 * 2 }) s m args below meth c (MQ below (Qm b D cy (some (.int r)) Mf) args s 0 0 (fun q => b ≤ q)) 3 b D cy 0 0 M 0 [(0, .ref (b + v0)), (1, .int v1), (2, .int v2)] []
  refine x_aload_n F dX8_hasPlace_0 rfl 0 rfl ?_
  refine x_iload_n F dX8_hasPlace_1 rfl 1 rfl ?_
  obtain ⟨k2, h⟩ := gdS h
  obtain ⟨⟨x2, M2⟩, c2, h⟩ := bdS h
  dsimp only at h
  refine x_callV F (As := [.int v1]) (rest := []) (res := (some (.int x2))) (ci := 8) (q := (RX8, TX8, 17)) rfl (by decide) k2 (k_X8_hasBand l b D cy N v0 v1 M _ _ c2) wl_241 wl_242 wl_243 wl_75 wl_237 hd_X8_hasBand ⟨Nat.le_of_ble_eq_true rfl, Nat.le_of_ble_eq_true rfl⟩ ⟨Nat.le_refl _, Nat.le_refl _⟩ (Nat.le_of_ble_eq_true rfl) rfl dX8_hasPlace_2 ?_
  refine x_if_eq F (tgt := 26) dX8_hasPlace_5 (by decide) (fun c5 => ?_) (fun c5 => ?_)
  · rw [if_pos c5] at h
    refine x_iconst F (v := 0) dX8_hasPlace_26 (by decide) ?_
    obtain ⟨rfl, rfl⟩ := retS h
    exact x_zret F hr hl (by decide) dX8_hasPlace_27
  · rw [if_neg c5] at h
    refine x_iload_n F dX8_hasPlace_8 rfl 2 rfl ?_
    refine x_if_lt F (tgt := 26) dX8_hasPlace_9 (by decide) (fun c9 => ?_) (fun c9 => ?_)
    · rw [if_pos c9] at h
      refine x_iconst F (v := 0) dX8_hasPlace_26 (by decide) ?_
      obtain ⟨rfl, rfl⟩ := retS h
      exact x_zret F hr hl (by decide) dX8_hasPlace_27
    · rw [if_neg c9] at h
      refine x_iload_n F dX8_hasPlace_12 rfl 2 rfl ?_
      refine x_aload_n F dX8_hasPlace_13 rfl 0 rfl ?_
      obtain ⟨x14, c14, h⟩ := bdS h
      refine x_getR F (ci := 8) (C := RX8) (T := TX8) (N := 17) rfl ⟨by decide, rfl⟩ inU8 3 (by decide) (fun _ _ _ => rfl) wl_240 c14 dX8_hasPlace_14 ?_
      refine x_iload_n F dX8_hasPlace_17 rfl 1 rfl ?_
      obtain ⟨x18, c18, h⟩ := bdS h
      refine x_aI F c18 dX8_hasPlace_18 ?_
      refine x_icmp_ge F (tgt := 26) dX8_hasPlace_19 (by decide) (fun c19 => ?_) (fun c19 => ?_)
      · rw [if_pos c19] at h
        refine x_iconst F (v := 0) dX8_hasPlace_26 (by decide) ?_
        obtain ⟨rfl, rfl⟩ := retS h
        exact x_zret F hr hl (by decide) dX8_hasPlace_27
      · rw [if_neg c19] at h
        refine x_iconst F (v := 1) dX8_hasPlace_22 (by decide) ?_
        refine x_goto F (tgt := 27) dX8_hasPlace_23 (by decide) ?_
        obtain ⟨rfl, rfl⟩ := retS h
        exact x_zret F hr hl (by decide) dX8_hasPlace_27
theorem hd_X8_hasPlace : (yX8_hasPlace).cls = RX8 ∧ (yX8_hasPlace).cls ≠ "java/lang/invoke/MethodHandle" ∧ (yX8_hasPlace).cls ≠ "java/lang/invoke/VarHandle" ∧ (parseMethodDescriptor (yX8_hasPlace).desc).map (fun d => d.parameters.length) = some 2 := by decide +kernel
theorem hd_X0_whyNotTread : (yX0_whyNotTread).cls = RX0 ∧ (yX0_whyNotTread).cls ≠ "java/lang/invoke/MethodHandle" ∧ (yX0_whyNotTread).cls ≠ "java/lang/invoke/VarHandle" ∧ (parseMethodDescriptor (yX0_whyNotTread).desc).map (fun d => d.parameters.length) = some 2 := by decide +kernel
theorem hd_X0_removeSign : (yX0_removeSign).cls = RX0 ∧ (yX0_removeSign).cls ≠ "java/lang/invoke/MethodHandle" ∧ (yX0_removeSign).cls ≠ "java/lang/invoke/VarHandle" ∧ (parseMethodDescriptor (yX0_removeSign).desc).map (fun d => d.parameters.length) = some 2 := by decide +kernel
theorem dX1_liveTreading_0 : decode cX1_liveTreading 0 = .ok (.aload_n 0, 1) := by decide +kernel
theorem dX1_liveTreading_1 : decode cX1_liveTreading 1 = .ok (.getfield 43, 3) := by decide +kernel
theorem dX1_liveTreading_4 : decode cX1_liveTreading 4 = .ok (.iload_n 2, 1) := by decide +kernel
theorem dX1_liveTreading_5 : decode cX1_liveTreading 5 = .ok (.iload_n 3, 1) := by decide +kernel
theorem dX1_liveTreading_6 : decode cX1_liveTreading 6 = .ok (.invokevirtual 143, 3) := by decide +kernel
theorem dX1_liveTreading_9 : decode cX1_liveTreading 9 = .ok (.ifCond .ne 6, 3) := by decide +kernel
theorem dX1_liveTreading_12 : decode cX1_liveTreading 12 = .ok (.bipush 19, 2) := by decide +kernel
theorem dX1_liveTreading_14 : decode cX1_liveTreading 14 = .ok (.ireturn, 1) := by decide +kernel
theorem dX1_liveTreading_15 : decode cX1_liveTreading 15 = .ok (.aload_n 1, 1) := by decide +kernel
theorem dX1_liveTreading_16 : decode cX1_liveTreading 16 = .ok (.iload_n 2, 1) := by decide +kernel
theorem dX1_liveTreading_17 : decode cX1_liveTreading 17 = .ok (.iload_n 3, 1) := by decide +kernel
theorem dX1_liveTreading_18 : decode cX1_liveTreading 18 = .ok (.invokevirtual 155, 3) := by decide +kernel
theorem dX1_liveTreading_21 : decode cX1_liveTreading 21 = .ok (.istore 4, 2) := by decide +kernel
theorem dX1_liveTreading_23 : decode cX1_liveTreading 23 = .ok (.iload 4, 2) := by decide +kernel
theorem dX1_liveTreading_25 : decode cX1_liveTreading 25 = .ok (.ifCond .ne 11, 3) := by decide +kernel
theorem dX1_liveTreading_28 : decode cX1_liveTreading 28 = .ok (.aload_n 1, 1) := by decide +kernel
theorem dX1_liveTreading_29 : decode cX1_liveTreading 29 = .ok (.iload_n 2, 1) := by decide +kernel
theorem dX1_liveTreading_30 : decode cX1_liveTreading 30 = .ok (.iload_n 3, 1) := by decide +kernel
theorem dX1_liveTreading_31 : decode cX1_liveTreading 31 = .ok (.invokevirtual 158, 3) := by decide +kernel
theorem dX1_liveTreading_34 : decode cX1_liveTreading 34 = .ok (.iconst 0, 1) := by decide +kernel
theorem dX1_liveTreading_35 : decode cX1_liveTreading 35 = .ok (.ireturn, 1) := by decide +kernel
theorem dX1_liveTreading_36 : decode cX1_liveTreading 36 = .ok (.bipush 10, 2) := by decide +kernel
theorem dX1_liveTreading_38 : decode cX1_liveTreading 38 = .ok (.iload 4, 2) := by decide +kernel
theorem dX1_liveTreading_40 : decode cX1_liveTreading 40 = .ok (.iadd, 1) := by decide +kernel
theorem dX1_liveTreading_41 : decode cX1_liveTreading 41 = .ok (.ireturn, 1) := by decide +kernel
def fX1_liveTreading (N : Nat) (v0 : Nat) (v1 : Nat) (v2 : Int32) (v3 : Int32) (M : Mem) : Option (Int32 × Mem) := ((fR M 1 v0 0).bind fun x1 => (if mK M x1 = 9 then ((fX8_hasPlace N x1 v2 v3 M).bind fun (x6, M6) => (if x6 = 0 then some (19, M6) else (if mK M6 v1 = 1 then ((fX0_whyNotTread N v1 v2 v3 M6).bind fun (x18, M18) => (if x18 = 0 then (if mK M18 v1 = 1 then ((fX0_removeSign N v1 v2 v3 M18).bind fun (u31, M31) => some (0, M31)) else none) else some (10 + x18, M18))) else none))) else none))
set_option maxHeartbeats 4000000 in
set_option maxRecDepth 100000 in
theorem k_X1_liveTreading (l : Launch) (b : Nat) (D : va_G) (cy : Nat → ClassId) (N : Nat) (v0 : Nat) (v1 : Nat) (v2 : Int32) (v3 : Int32) (M : Mem) (r : Int32) (Mf : Mem) (h : fX1_liveTreading N v0 v1 v2 v3 M = some (r, Mf)) : Ct l yX1_liveTreading cX1_liveTreading 5 (some .int) 3 0 0 b D cy [.ref (b + v0), .ref (b + v1), .int v2, .int v3] M (some (.int r)) Mf := by
  refine Ct_of (own := RX1) (by decide) rfl (Nat.le_of_ble_eq_true rfl) ?_
  intro p e s m args below meth c F hr hl hmn
  unfold fX1_liveTreading at h
  show X p l e ({ frames := 3, cells := 0, slots := 0, locals := 100 * 3 }) s m args below meth c (MQ below (Qm b D cy (some (.int r)) Mf) args s 0 0 (fun q => b ≤ q)) 5 b D cy 0 0 M 0 [(0, .ref (b + v0)), (1, .ref (b + v1)), (2, .int v2), (3, .int v3)] []
  refine x_aload_n F dX1_liveTreading_0 rfl 0 rfl ?_
  obtain ⟨x1, c1, h⟩ := bdS h
  refine x_getR F (ci := 1) (C := RX1) (T := TX1) (N := 11) rfl ⟨by decide, rfl⟩ inU1 0 (by decide) (fun _ _ _ => rfl) wl_145 c1 dX1_liveTreading_1 ?_
  refine x_iload_n F dX1_liveTreading_4 rfl 2 rfl ?_
  refine x_iload_n F dX1_liveTreading_5 rfl 3 rfl ?_
  obtain ⟨k6, h⟩ := gdS h
  obtain ⟨⟨x6, M6⟩, c6, h⟩ := bdS h
  dsimp only at h
  refine x_callV F (As := [.int v2, .int v3]) (rest := []) (res := (some (.int x6))) (ci := 8) (q := (RX8, TX8, 17)) rfl (by decide) k6 (k_X8_hasPlace l b D cy N x1 v2 v3 M _ _ c6) wl_244 wl_245 wl_246 wl_75 wl_239 hd_X8_hasPlace ⟨Nat.le_of_ble_eq_true rfl, Nat.le_of_ble_eq_true rfl⟩ ⟨Nat.le_refl _, Nat.le_refl _⟩ (Nat.le_of_ble_eq_true rfl) rfl dX1_liveTreading_6 ?_
  refine x_if_ne F (tgt := 15) dX1_liveTreading_9 (by decide) (fun c9 => ?_) (fun c9 => ?_)
  · rw [if_neg c9] at h
    refine x_aload_n F dX1_liveTreading_15 rfl 1 rfl ?_
    refine x_iload_n F dX1_liveTreading_16 rfl 2 rfl ?_
    refine x_iload_n F dX1_liveTreading_17 rfl 3 rfl ?_
    obtain ⟨k18, h⟩ := gdS h
    obtain ⟨⟨x18, M18⟩, c18, h⟩ := bdS h
    dsimp only at h
    refine x_callV F (As := [.int v2, .int v3]) (rest := []) (res := (some (.int x18))) (ci := 0) (q := (RX0, TX0, 12)) rfl (by decide) k18 (k_X0_whyNotTread l b D cy N v1 v2 v3 M6 _ _ c18) wl_254 wl_255 wl_256 wl_52 wl_33 hd_X0_whyNotTread ⟨Nat.le_of_ble_eq_true rfl, Nat.le_of_ble_eq_true rfl⟩ ⟨Nat.le_refl _, Nat.le_refl _⟩ (Nat.le_of_ble_eq_true rfl) rfl dX1_liveTreading_18 ?_
    refine x_istore F (lv' := [(4, .int x18), (0, .ref (b + v0)), (1, .ref (b + v1)), (2, .int v2), (3, .int v3)]) dX1_liveTreading_21 (by decide) rfl ?_
    refine x_iload F dX1_liveTreading_23 0 rfl ?_
    refine x_if_ne F (tgt := 36) dX1_liveTreading_25 (by decide) (fun c25 => ?_) (fun c25 => ?_)
    · rw [if_neg c25] at h
      refine x_bipush F (v := 10) dX1_liveTreading_36 (by decide) ?_
      refine x_iload F dX1_liveTreading_38 0 rfl ?_
      refine x_iadd F dX1_liveTreading_40 ?_
      obtain ⟨rfl, rfl⟩ := retS h
      exact x_iret F hr hl dX1_liveTreading_41
    · rw [if_pos c25] at h
      refine x_aload_n F dX1_liveTreading_28 rfl 2 rfl ?_
      refine x_iload_n F dX1_liveTreading_29 rfl 3 rfl ?_
      refine x_iload_n F dX1_liveTreading_30 rfl 4 rfl ?_
      obtain ⟨k31, h⟩ := gdS h
      obtain ⟨⟨u31, M31⟩, c31, h⟩ := bdS h
      dsimp only at h
      refine x_callV F (As := [.int v2, .int v3]) (rest := []) (res := none) (ci := 0) (q := (RX0, TX0, 12)) rfl (by decide) k31 (k_X0_removeSign l b D cy N v1 v2 v3 M18 _ _ c31) wl_257 wl_258 wl_259 wl_52 wl_34 hd_X0_removeSign ⟨Nat.le_of_ble_eq_true rfl, Nat.le_of_ble_eq_true rfl⟩ ⟨Nat.le_refl _, Nat.le_refl _⟩ (Nat.le_of_ble_eq_true rfl) rfl dX1_liveTreading_31 ?_
      refine x_iconst F (v := 0) dX1_liveTreading_34 (by decide) ?_
      obtain ⟨rfl, rfl⟩ := retS h
      exact x_iret F hr hl dX1_liveTreading_35
  · rw [if_pos c9] at h
    refine x_bipush F (v := 19) dX1_liveTreading_12 (by decide) ?_
    obtain ⟨rfl, rfl⟩ := retS h
    exact x_iret F hr hl dX1_liveTreading_14
theorem hd_X0_whyNotWrite : (yX0_whyNotWrite).cls = RX0 ∧ (yX0_whyNotWrite).cls ≠ "java/lang/invoke/MethodHandle" ∧ (yX0_whyNotWrite).cls ≠ "java/lang/invoke/VarHandle" ∧ (parseMethodDescriptor (yX0_whyNotWrite).desc).map (fun d => d.parameters.length) = some 3 := by decide +kernel
theorem hd_X0_putSign : (yX0_putSign).cls = RX0 ∧ (yX0_putSign).cls ≠ "java/lang/invoke/MethodHandle" ∧ (yX0_putSign).cls ≠ "java/lang/invoke/VarHandle" ∧ (parseMethodDescriptor (yX0_putSign).desc).map (fun d => d.parameters.length) = some 4 := by decide +kernel
theorem dX1_liveWriting_0 : decode cX1_liveWriting 0 = .ok (.aload_n 0, 1) := by decide +kernel
theorem dX1_liveWriting_1 : decode cX1_liveWriting 1 = .ok (.getfield 43, 3) := by decide +kernel
theorem dX1_liveWriting_4 : decode cX1_liveWriting 4 = .ok (.iload_n 3, 1) := by decide +kernel
theorem dX1_liveWriting_5 : decode cX1_liveWriting 5 = .ok (.iload 4, 2) := by decide +kernel
theorem dX1_liveWriting_7 : decode cX1_liveWriting 7 = .ok (.invokevirtual 143, 3) := by decide +kernel
theorem dX1_liveWriting_10 : decode cX1_liveWriting 10 = .ok (.ifCond .ne 6, 3) := by decide +kernel
theorem dX1_liveWriting_13 : decode cX1_liveWriting 13 = .ok (.bipush 9, 2) := by decide +kernel
theorem dX1_liveWriting_15 : decode cX1_liveWriting 15 = .ok (.ireturn, 1) := by decide +kernel
theorem dX1_liveWriting_16 : decode cX1_liveWriting 16 = .ok (.aload_n 1, 1) := by decide +kernel
theorem dX1_liveWriting_17 : decode cX1_liveWriting 17 = .ok (.iload_n 2, 1) := by decide +kernel
theorem dX1_liveWriting_18 : decode cX1_liveWriting 18 = .ok (.iload_n 3, 1) := by decide +kernel
theorem dX1_liveWriting_19 : decode cX1_liveWriting 19 = .ok (.iload 4, 2) := by decide +kernel
theorem dX1_liveWriting_21 : decode cX1_liveWriting 21 = .ok (.invokevirtual 147, 3) := by decide +kernel
theorem dX1_liveWriting_24 : decode cX1_liveWriting 24 = .ok (.istore 6, 2) := by decide +kernel
theorem dX1_liveWriting_26 : decode cX1_liveWriting 26 = .ok (.iload 6, 2) := by decide +kernel
theorem dX1_liveWriting_28 : decode cX1_liveWriting 28 = .ok (.ifCond .ne 13, 3) := by decide +kernel
theorem dX1_liveWriting_31 : decode cX1_liveWriting 31 = .ok (.aload_n 1, 1) := by decide +kernel
theorem dX1_liveWriting_32 : decode cX1_liveWriting 32 = .ok (.iload_n 2, 1) := by decide +kernel
theorem dX1_liveWriting_33 : decode cX1_liveWriting 33 = .ok (.iload_n 3, 1) := by decide +kernel
theorem dX1_liveWriting_34 : decode cX1_liveWriting 34 = .ok (.iload 4, 2) := by decide +kernel
theorem dX1_liveWriting_36 : decode cX1_liveWriting 36 = .ok (.iload 5, 2) := by decide +kernel
theorem dX1_liveWriting_38 : decode cX1_liveWriting 38 = .ok (.invokevirtual 151, 3) := by decide +kernel
theorem dX1_liveWriting_41 : decode cX1_liveWriting 41 = .ok (.iload 6, 2) := by decide +kernel
theorem dX1_liveWriting_43 : decode cX1_liveWriting 43 = .ok (.ireturn, 1) := by decide +kernel
def fX1_liveWriting (N : Nat) (v0 : Nat) (v1 : Nat) (v2 : Int32) (v3 : Int32) (v4 : Int32) (v5 : Int32) (M : Mem) : Option (Int32 × Mem) := ((fR M 1 v0 0).bind fun x1 => (if mK M x1 = 9 then ((fX8_hasPlace N x1 v3 v4 M).bind fun (x7, M7) => (if x7 = 0 then some (9, M7) else (if mK M7 v1 = 1 then ((fX0_whyNotWrite N v1 v2 v3 v4 M7).bind fun (x21, M21) => (if x21 = 0 then (if mK M21 v1 = 1 then ((fX0_putSign N v1 v2 v3 v4 v5 M21).bind fun (u38, M38) => some (x21, M38)) else none) else some (x21, M21))) else none))) else none))
set_option maxHeartbeats 4000000 in
set_option maxRecDepth 100000 in
theorem k_X1_liveWriting (l : Launch) (b : Nat) (D : va_G) (cy : Nat → ClassId) (N : Nat) (v0 : Nat) (v1 : Nat) (v2 : Int32) (v3 : Int32) (v4 : Int32) (v5 : Int32) (M : Mem) (r : Int32) (Mf : Mem) (h : fX1_liveWriting N v0 v1 v2 v3 v4 v5 M = some (r, Mf)) : Ct l yX1_liveWriting cX1_liveWriting 7 (some .int) 3 0 0 b D cy [.ref (b + v0), .ref (b + v1), .int v2, .int v3, .int v4, .int v5] M (some (.int r)) Mf := by
  refine Ct_of (own := RX1) (by decide) rfl (Nat.le_of_ble_eq_true rfl) ?_
  intro p e s m args below meth c F hr hl hmn
  unfold fX1_liveWriting at h
  show X p l e ({ frames := 3, cells := 0, slots := 0, locals := 100 * 3 }) s m args below meth c (MQ below (Qm b D cy (some (.int r)) Mf) args s 0 0 (fun q => b ≤ q)) 7 b D cy 0 0 M 0 [(0, .ref (b + v0)), (1, .ref (b + v1)), (2, .int v2), (3, .int v3), (4, .int v4), (5, .int v5)] []
  refine x_aload_n F dX1_liveWriting_0 rfl 0 rfl ?_
  obtain ⟨x1, c1, h⟩ := bdS h
  refine x_getR F (ci := 1) (C := RX1) (T := TX1) (N := 11) rfl ⟨by decide, rfl⟩ inU1 0 (by decide) (fun _ _ _ => rfl) wl_145 c1 dX1_liveWriting_1 ?_
  refine x_iload_n F dX1_liveWriting_4 rfl 3 rfl ?_
  refine x_iload F dX1_liveWriting_5 4 rfl ?_
  obtain ⟨k7, h⟩ := gdS h
  obtain ⟨⟨x7, M7⟩, c7, h⟩ := bdS h
  dsimp only at h
  refine x_callV F (As := [.int v3, .int v4]) (rest := []) (res := (some (.int x7))) (ci := 8) (q := (RX8, TX8, 17)) rfl (by decide) k7 (k_X8_hasPlace l b D cy N x1 v3 v4 M _ _ c7) wl_244 wl_245 wl_246 wl_75 wl_239 hd_X8_hasPlace ⟨Nat.le_of_ble_eq_true rfl, Nat.le_of_ble_eq_true rfl⟩ ⟨Nat.le_refl _, Nat.le_refl _⟩ (Nat.le_of_ble_eq_true rfl) rfl dX1_liveWriting_7 ?_
  refine x_if_ne F (tgt := 16) dX1_liveWriting_10 (by decide) (fun c10 => ?_) (fun c10 => ?_)
  · rw [if_neg c10] at h
    refine x_aload_n F dX1_liveWriting_16 rfl 1 rfl ?_
    refine x_iload_n F dX1_liveWriting_17 rfl 2 rfl ?_
    refine x_iload_n F dX1_liveWriting_18 rfl 3 rfl ?_
    refine x_iload F dX1_liveWriting_19 4 rfl ?_
    obtain ⟨k21, h⟩ := gdS h
    obtain ⟨⟨x21, M21⟩, c21, h⟩ := bdS h
    dsimp only at h
    refine x_callV F (As := [.int v2, .int v3, .int v4]) (rest := []) (res := (some (.int x21))) (ci := 0) (q := (RX0, TX0, 12)) rfl (by decide) k21 (k_X0_whyNotWrite l b D cy N v1 v2 v3 v4 M7 _ _ c21) wl_247 wl_248 wl_249 wl_52 wl_28 hd_X0_whyNotWrite ⟨Nat.le_of_ble_eq_true rfl, Nat.le_of_ble_eq_true rfl⟩ ⟨Nat.le_refl _, Nat.le_refl _⟩ (Nat.le_of_ble_eq_true rfl) rfl dX1_liveWriting_21 ?_
    refine x_istore F (lv' := [(6, .int x21), (0, .ref (b + v0)), (1, .ref (b + v1)), (2, .int v2), (3, .int v3), (4, .int v4), (5, .int v5)]) dX1_liveWriting_24 (by decide) rfl ?_
    refine x_iload F dX1_liveWriting_26 0 rfl ?_
    refine x_if_ne F (tgt := 41) dX1_liveWriting_28 (by decide) (fun c28 => ?_) (fun c28 => ?_)
    · rw [if_neg c28] at h
      refine x_iload F dX1_liveWriting_41 0 rfl ?_
      obtain ⟨rfl, rfl⟩ := retS h
      exact x_iret F hr hl dX1_liveWriting_43
    · rw [if_pos c28] at h
      refine x_aload_n F dX1_liveWriting_31 rfl 2 rfl ?_
      refine x_iload_n F dX1_liveWriting_32 rfl 3 rfl ?_
      refine x_iload_n F dX1_liveWriting_33 rfl 4 rfl ?_
      refine x_iload F dX1_liveWriting_34 5 rfl ?_
      refine x_iload F dX1_liveWriting_36 6 rfl ?_
      obtain ⟨k38, h⟩ := gdS h
      obtain ⟨⟨u38, M38⟩, c38, h⟩ := bdS h
      dsimp only at h
      refine x_callV F (As := [.int v2, .int v3, .int v4, .int v5]) (rest := []) (res := none) (ci := 0) (q := (RX0, TX0, 12)) rfl (by decide) k38 (k_X0_putSign l b D cy N v1 v2 v3 v4 v5 M21 _ _ c38) wl_250 wl_251 wl_252 wl_52 wl_32 hd_X0_putSign ⟨Nat.le_of_ble_eq_true rfl, Nat.le_of_ble_eq_true rfl⟩ ⟨Nat.le_refl _, Nat.le_refl _⟩ (Nat.le_of_ble_eq_true rfl) rfl dX1_liveWriting_38 ?_
      refine x_iload F dX1_liveWriting_41 0 rfl ?_
      obtain ⟨rfl, rfl⟩ := retS h
      exact x_iret F hr hl dX1_liveWriting_43
  · rw [if_pos c10] at h
    refine x_bipush F (v := 9) dX1_liveWriting_13 (by decide) ?_
    obtain ⟨rfl, rfl⟩ := retS h
    exact x_iret F hr hl dX1_liveWriting_15
theorem hd_X0_passHours : (yX0_passHours).cls = RX0 ∧ (yX0_passHours).cls ≠ "java/lang/invoke/MethodHandle" ∧ (yX0_passHours).cls ≠ "java/lang/invoke/VarHandle" ∧ (parseMethodDescriptor (yX0_passHours).desc).map (fun d => d.parameters.length) = some 1 := by decide +kernel
theorem hd_X1_liveTreading : (yX1_liveTreading).cls = RX1 ∧ (yX1_liveTreading).cls ≠ "java/lang/invoke/MethodHandle" ∧ (yX1_liveTreading).cls ≠ "java/lang/invoke/VarHandle" ∧ (parseMethodDescriptor (yX1_liveTreading).desc).map (fun d => d.parameters.length) = some 3 := by decide +kernel
theorem hd_X1_liveWriting : (yX1_liveWriting).cls = RX1 ∧ (yX1_liveWriting).cls ≠ "java/lang/invoke/MethodHandle" ∧ (yX1_liveWriting).cls ≠ "java/lang/invoke/VarHandle" ∧ (parseMethodDescriptor (yX1_liveWriting).desc).map (fun d => d.parameters.length) = some 5 := by decide +kernel
theorem dX1_liveLine_0 : decode cX1_liveLine 0 = .ok (.aload_n 0, 1) := by decide +kernel
theorem dX1_liveLine_1 : decode cX1_liveLine 1 = .ok (.getfield 11, 3) := by decide +kernel
theorem dX1_liveLine_4 : decode cX1_liveLine 4 = .ok (.iload_n 2, 1) := by decide +kernel
theorem dX1_liveLine_5 : decode cX1_liveLine 5 = .ok (.iaload, 1) := by decide +kernel
theorem dX1_liveLine_6 : decode cX1_liveLine 6 = .ok (.iconst 5, 1) := by decide +kernel
theorem dX1_liveLine_7 : decode cX1_liveLine 7 = .ok (.if_icmp .ne 33, 3) := by decide +kernel
theorem dX1_liveLine_10 : decode cX1_liveLine 10 = .ok (.aload_n 0, 1) := by decide +kernel
theorem dX1_liveLine_11 : decode cX1_liveLine 11 = .ok (.aload_n 1, 1) := by decide +kernel
theorem dX1_liveLine_12 : decode cX1_liveLine 12 = .ok (.aload_n 0, 1) := by decide +kernel
theorem dX1_liveLine_13 : decode cX1_liveLine 13 = .ok (.getfield 15, 3) := by decide +kernel
theorem dX1_liveLine_16 : decode cX1_liveLine 16 = .ok (.iload_n 2, 1) := by decide +kernel
theorem dX1_liveLine_17 : decode cX1_liveLine 17 = .ok (.iaload, 1) := by decide +kernel
theorem dX1_liveLine_18 : decode cX1_liveLine 18 = .ok (.aload_n 0, 1) := by decide +kernel
theorem dX1_liveLine_19 : decode cX1_liveLine 19 = .ok (.getfield 18, 3) := by decide +kernel
theorem dX1_liveLine_22 : decode cX1_liveLine 22 = .ok (.iload_n 2, 1) := by decide +kernel
theorem dX1_liveLine_23 : decode cX1_liveLine 23 = .ok (.iaload, 1) := by decide +kernel
theorem dX1_liveLine_24 : decode cX1_liveLine 24 = .ok (.aload_n 0, 1) := by decide +kernel
theorem dX1_liveLine_25 : decode cX1_liveLine 25 = .ok (.getfield 21, 3) := by decide +kernel
theorem dX1_liveLine_28 : decode cX1_liveLine 28 = .ok (.iload_n 2, 1) := by decide +kernel
theorem dX1_liveLine_29 : decode cX1_liveLine 29 = .ok (.iaload, 1) := by decide +kernel
theorem dX1_liveLine_30 : decode cX1_liveLine 30 = .ok (.aload_n 0, 1) := by decide +kernel
theorem dX1_liveLine_31 : decode cX1_liveLine 31 = .ok (.getfield 24, 3) := by decide +kernel
theorem dX1_liveLine_34 : decode cX1_liveLine 34 = .ok (.iload_n 2, 1) := by decide +kernel
theorem dX1_liveLine_35 : decode cX1_liveLine 35 = .ok (.iaload, 1) := by decide +kernel
theorem dX1_liveLine_36 : decode cX1_liveLine 36 = .ok (.invokevirtual 128, 3) := by decide +kernel
theorem dX1_liveLine_39 : decode cX1_liveLine 39 = .ok (.ireturn, 1) := by decide +kernel
theorem dX1_liveLine_40 : decode cX1_liveLine 40 = .ok (.aload_n 0, 1) := by decide +kernel
theorem dX1_liveLine_41 : decode cX1_liveLine 41 = .ok (.getfield 11, 3) := by decide +kernel
theorem dX1_liveLine_44 : decode cX1_liveLine 44 = .ok (.iload_n 2, 1) := by decide +kernel
theorem dX1_liveLine_45 : decode cX1_liveLine 45 = .ok (.iaload, 1) := by decide +kernel
theorem dX1_liveLine_46 : decode cX1_liveLine 46 = .ok (.bipush 6, 2) := by decide +kernel
theorem dX1_liveLine_48 : decode cX1_liveLine 48 = .ok (.if_icmp .ne 21, 3) := by decide +kernel
theorem dX1_liveLine_51 : decode cX1_liveLine 51 = .ok (.aload_n 0, 1) := by decide +kernel
theorem dX1_liveLine_52 : decode cX1_liveLine 52 = .ok (.aload_n 1, 1) := by decide +kernel
theorem dX1_liveLine_53 : decode cX1_liveLine 53 = .ok (.aload_n 0, 1) := by decide +kernel
theorem dX1_liveLine_54 : decode cX1_liveLine 54 = .ok (.getfield 18, 3) := by decide +kernel
theorem dX1_liveLine_57 : decode cX1_liveLine 57 = .ok (.iload_n 2, 1) := by decide +kernel
theorem dX1_liveLine_58 : decode cX1_liveLine 58 = .ok (.iaload, 1) := by decide +kernel
theorem dX1_liveLine_59 : decode cX1_liveLine 59 = .ok (.aload_n 0, 1) := by decide +kernel
theorem dX1_liveLine_60 : decode cX1_liveLine 60 = .ok (.getfield 21, 3) := by decide +kernel
theorem dX1_liveLine_63 : decode cX1_liveLine 63 = .ok (.iload_n 2, 1) := by decide +kernel
theorem dX1_liveLine_64 : decode cX1_liveLine 64 = .ok (.iaload, 1) := by decide +kernel
theorem dX1_liveLine_65 : decode cX1_liveLine 65 = .ok (.invokevirtual 132, 3) := by decide +kernel
theorem dX1_liveLine_68 : decode cX1_liveLine 68 = .ok (.ireturn, 1) := by decide +kernel
theorem dX1_liveLine_69 : decode cX1_liveLine 69 = .ok (.aload_n 0, 1) := by decide +kernel
theorem dX1_liveLine_70 : decode cX1_liveLine 70 = .ok (.getfield 21, 3) := by decide +kernel
theorem dX1_liveLine_73 : decode cX1_liveLine 73 = .ok (.iload_n 2, 1) := by decide +kernel
theorem dX1_liveLine_74 : decode cX1_liveLine 74 = .ok (.iaload, 1) := by decide +kernel
theorem dX1_liveLine_75 : decode cX1_liveLine 75 = .ok (.aload_n 1, 1) := by decide +kernel
theorem dX1_liveLine_76 : decode cX1_liveLine 76 = .ok (.invokevirtual 136, 3) := by decide +kernel
theorem dX1_liveLine_79 : decode cX1_liveLine 79 = .ok (.if_icmp .le 6, 3) := by decide +kernel
theorem dX1_liveLine_82 : decode cX1_liveLine 82 = .ok (.bipush 21, 2) := by decide +kernel
theorem dX1_liveLine_84 : decode cX1_liveLine 84 = .ok (.ireturn, 1) := by decide +kernel
theorem dX1_liveLine_85 : decode cX1_liveLine 85 = .ok (.aload_n 1, 1) := by decide +kernel
theorem dX1_liveLine_86 : decode cX1_liveLine 86 = .ok (.aload_n 0, 1) := by decide +kernel
theorem dX1_liveLine_87 : decode cX1_liveLine 87 = .ok (.getfield 21, 3) := by decide +kernel
theorem dX1_liveLine_90 : decode cX1_liveLine 90 = .ok (.iload_n 2, 1) := by decide +kernel
theorem dX1_liveLine_91 : decode cX1_liveLine 91 = .ok (.iaload, 1) := by decide +kernel
theorem dX1_liveLine_92 : decode cX1_liveLine 92 = .ok (.invokevirtual 140, 3) := by decide +kernel
theorem dX1_liveLine_95 : decode cX1_liveLine 95 = .ok (.iconst 0, 1) := by decide +kernel
theorem dX1_liveLine_96 : decode cX1_liveLine 96 = .ok (.ireturn, 1) := by decide +kernel
def fX1_liveLine (N : Nat) (v0 : Nat) (v1 : Nat) (v2 : Int32) (M : Mem) : Option (Int32 × Mem) := ((fR M 1 v0 1).bind fun x1 => ((aI M x1 v2).bind fun x5 => (if x5 = 5 then ((fR M 1 v0 2).bind fun x13 => ((aI M x13 v2).bind fun x17 => ((fR M 1 v0 3).bind fun x19 => ((aI M x19 v2).bind fun x23 => ((fR M 1 v0 4).bind fun x25 => ((aI M x25 v2).bind fun x29 => ((fR M 1 v0 5).bind fun x31 => ((aI M x31 v2).bind fun x35 => (if mK M v0 = 2 then ((fX1_liveWriting N v0 v1 x17 x23 x29 x35 M).bind fun (x36, M36) => some (x36, M36)) else none))))))))) else ((fR M 1 v0 1).bind fun x41 => ((aI M x41 v2).bind fun x45 => (if x45 = 6 then ((fR M 1 v0 3).bind fun x54 => ((aI M x54 v2).bind fun x58 => ((fR M 1 v0 4).bind fun x60 => ((aI M x60 v2).bind fun x64 => (if mK M v0 = 2 then ((fX1_liveTreading N v0 v1 x58 x64 M).bind fun (x65, M65) => some (x65, M65)) else none))))) else ((fR M 1 v0 4).bind fun x70 => ((aI M x70 v2).bind fun x74 => (if mK M v1 = 1 then ((fX0_hoursLeft N v1 M).bind fun (x76, M76) => (if x74 ≤ x76 then ((fR M76 1 v0 4).bind fun x87 => ((aI M76 x87 v2).bind fun x91 => (if mK M76 v1 = 1 then ((fX0_passHours N v1 x91 M76).bind fun (u92, M92) => some (0, M92)) else none))) else some (21, M76))) else none)))))))))
set_option maxHeartbeats 4000000 in
set_option maxRecDepth 100000 in
theorem k_X1_liveLine (l : Launch) (b : Nat) (D : va_G) (cy : Nat → ClassId) (N : Nat) (v0 : Nat) (v1 : Nat) (v2 : Int32) (M : Mem) (r : Int32) (Mf : Mem) (h : fX1_liveLine N v0 v1 v2 M = some (r, Mf)) : Ct l yX1_liveLine cX1_liveLine 3 (some .int) 6 0 0 b D cy [.ref (b + v0), .ref (b + v1), .int v2] M (some (.int r)) Mf := by
  refine Ct_of (own := RX1) (by decide) rfl (Nat.le_of_ble_eq_true rfl) ?_
  intro p e s m args below meth c F hr hl hmn
  unfold fX1_liveLine at h
  show X p l e ({ frames := 6, cells := 0, slots := 0, locals := 100 * 6 }) s m args below meth c (MQ below (Qm b D cy (some (.int r)) Mf) args s 0 0 (fun q => b ≤ q)) 3 b D cy 0 0 M 0 [(0, .ref (b + v0)), (1, .ref (b + v1)), (2, .int v2)] []
  refine x_aload_n F dX1_liveLine_0 rfl 0 rfl ?_
  obtain ⟨x1, c1, h⟩ := bdS h
  refine x_getR F (ci := 1) (C := RX1) (T := TX1) (N := 11) rfl ⟨by decide, rfl⟩ inU1 1 (by decide) (fun _ _ _ => rfl) wl_135 c1 dX1_liveLine_1 ?_
  refine x_iload_n F dX1_liveLine_4 rfl 2 rfl ?_
  obtain ⟨x5, c5, h⟩ := bdS h
  refine x_aI F c5 dX1_liveLine_5 ?_
  refine x_iconst F (v := 5) dX1_liveLine_6 (by decide) ?_
  refine x_icmp_ne F (tgt := 40) dX1_liveLine_7 (by decide) (fun c7 => ?_) (fun c7 => ?_)
  · rw [if_neg c7] at h
    refine x_aload_n F dX1_liveLine_40 rfl 0 rfl ?_
    obtain ⟨x41, c41, h⟩ := bdS h
    refine x_getR F (ci := 1) (C := RX1) (T := TX1) (N := 11) rfl ⟨by decide, rfl⟩ inU1 1 (by decide) (fun _ _ _ => rfl) wl_135 c41 dX1_liveLine_41 ?_
    refine x_iload_n F dX1_liveLine_44 rfl 2 rfl ?_
    obtain ⟨x45, c45, h⟩ := bdS h
    refine x_aI F c45 dX1_liveLine_45 ?_
    refine x_bipush F (v := 6) dX1_liveLine_46 (by decide) ?_
    refine x_icmp_ne F (tgt := 69) dX1_liveLine_48 (by decide) (fun c48 => ?_) (fun c48 => ?_)
    · rw [if_neg c48] at h
      refine x_aload_n F dX1_liveLine_69 rfl 0 rfl ?_
      obtain ⟨x70, c70, h⟩ := bdS h
      refine x_getR F (ci := 1) (C := RX1) (T := TX1) (N := 11) rfl ⟨by decide, rfl⟩ inU1 4 (by decide) (fun _ _ _ => rfl) wl_138 c70 dX1_liveLine_70 ?_
      refine x_iload_n F dX1_liveLine_73 rfl 2 rfl ?_
      obtain ⟨x74, c74, h⟩ := bdS h
      refine x_aI F c74 dX1_liveLine_74 ?_
      refine x_aload_n F dX1_liveLine_75 rfl 1 rfl ?_
      obtain ⟨k76, h⟩ := gdS h
      obtain ⟨⟨x76, M76⟩, c76, h⟩ := bdS h
      dsimp only at h
      refine x_callV F (As := []) (rest := [.int x74]) (res := (some (.int x76))) (ci := 0) (q := (RX0, TX0, 12)) rfl (by decide) k76 (k_X0_hoursLeft l b D cy N v1 M _ _ c76) wl_267 wl_96 wl_97 wl_52 wl_35 hd_X0_hoursLeft ⟨Nat.le_of_ble_eq_true rfl, Nat.le_of_ble_eq_true rfl⟩ ⟨Nat.le_refl _, Nat.le_refl _⟩ (Nat.le_of_ble_eq_true rfl) rfl dX1_liveLine_76 ?_
      refine x_icmp_le F (tgt := 85) dX1_liveLine_79 (by decide) (fun c79 => ?_) (fun c79 => ?_)
      · rw [if_pos c79] at h
        refine x_aload_n F dX1_liveLine_85 rfl 1 rfl ?_
        refine x_aload_n F dX1_liveLine_86 rfl 0 rfl ?_
        obtain ⟨x87, c87, h⟩ := bdS h
        refine x_getR F (ci := 1) (C := RX1) (T := TX1) (N := 11) rfl ⟨by decide, rfl⟩ inU1 4 (by decide) (fun _ _ _ => rfl) wl_138 c87 dX1_liveLine_87 ?_
        refine x_iload_n F dX1_liveLine_90 rfl 2 rfl ?_
        obtain ⟨x91, c91, h⟩ := bdS h
        refine x_aI F c91 dX1_liveLine_91 ?_
        obtain ⟨k92, h⟩ := gdS h
        obtain ⟨⟨u92, M92⟩, c92, h⟩ := bdS h
        dsimp only at h
        refine x_callV F (As := [.int x91]) (rest := []) (res := none) (ci := 0) (q := (RX0, TX0, 12)) rfl (by decide) k92 (k_X0_passHours l b D cy N v1 x91 M76 _ _ c92) wl_268 wl_269 wl_270 wl_52 wl_85 hd_X0_passHours ⟨Nat.le_of_ble_eq_true rfl, Nat.le_of_ble_eq_true rfl⟩ ⟨Nat.le_refl _, Nat.le_refl _⟩ (Nat.le_of_ble_eq_true rfl) rfl dX1_liveLine_92 ?_
        refine x_iconst F (v := 0) dX1_liveLine_95 (by decide) ?_
        obtain ⟨rfl, rfl⟩ := retS h
        exact x_iret F hr hl dX1_liveLine_96
      · rw [if_neg c79] at h
        refine x_bipush F (v := 21) dX1_liveLine_82 (by decide) ?_
        obtain ⟨rfl, rfl⟩ := retS h
        exact x_iret F hr hl dX1_liveLine_84
    · rw [if_pos c48] at h
      refine x_aload_n F dX1_liveLine_51 rfl 0 rfl ?_
      refine x_aload_n F dX1_liveLine_52 rfl 1 rfl ?_
      refine x_aload_n F dX1_liveLine_53 rfl 0 rfl ?_
      obtain ⟨x54, c54, h⟩ := bdS h
      refine x_getR F (ci := 1) (C := RX1) (T := TX1) (N := 11) rfl ⟨by decide, rfl⟩ inU1 3 (by decide) (fun _ _ _ => rfl) wl_137 c54 dX1_liveLine_54 ?_
      refine x_iload_n F dX1_liveLine_57 rfl 2 rfl ?_
      obtain ⟨x58, c58, h⟩ := bdS h
      refine x_aI F c58 dX1_liveLine_58 ?_
      refine x_aload_n F dX1_liveLine_59 rfl 0 rfl ?_
      obtain ⟨x60, c60, h⟩ := bdS h
      refine x_getR F (ci := 1) (C := RX1) (T := TX1) (N := 11) rfl ⟨by decide, rfl⟩ inU1 4 (by decide) (fun _ _ _ => rfl) wl_138 c60 dX1_liveLine_60 ?_
      refine x_iload_n F dX1_liveLine_63 rfl 2 rfl ?_
      obtain ⟨x64, c64, h⟩ := bdS h
      refine x_aI F c64 dX1_liveLine_64 ?_
      obtain ⟨k65, h⟩ := gdS h
      obtain ⟨⟨x65, M65⟩, c65, h⟩ := bdS h
      dsimp only at h
      refine x_callV F (As := [.ref (b + v1), .int x58, .int x64]) (rest := []) (res := (some (.int x65))) (ci := 1) (q := (RX1, TX1, 11)) rfl (by decide) k65 (k_X1_liveTreading l b D cy N v0 v1 x58 x64 M _ _ c65) wl_264 wl_265 wl_266 wl_219 wl_260 hd_X1_liveTreading ⟨Nat.le_of_ble_eq_true rfl, Nat.le_of_ble_eq_true rfl⟩ ⟨Nat.le_refl _, Nat.le_refl _⟩ (Nat.le_of_ble_eq_true rfl) rfl dX1_liveLine_65 ?_
      obtain ⟨rfl, rfl⟩ := retS h
      exact x_iret F hr hl dX1_liveLine_68
  · rw [if_pos c7] at h
    refine x_aload_n F dX1_liveLine_10 rfl 0 rfl ?_
    refine x_aload_n F dX1_liveLine_11 rfl 1 rfl ?_
    refine x_aload_n F dX1_liveLine_12 rfl 0 rfl ?_
    obtain ⟨x13, c13, h⟩ := bdS h
    refine x_getR F (ci := 1) (C := RX1) (T := TX1) (N := 11) rfl ⟨by decide, rfl⟩ inU1 2 (by decide) (fun _ _ _ => rfl) wl_136 c13 dX1_liveLine_13 ?_
    refine x_iload_n F dX1_liveLine_16 rfl 2 rfl ?_
    obtain ⟨x17, c17, h⟩ := bdS h
    refine x_aI F c17 dX1_liveLine_17 ?_
    refine x_aload_n F dX1_liveLine_18 rfl 0 rfl ?_
    obtain ⟨x19, c19, h⟩ := bdS h
    refine x_getR F (ci := 1) (C := RX1) (T := TX1) (N := 11) rfl ⟨by decide, rfl⟩ inU1 3 (by decide) (fun _ _ _ => rfl) wl_137 c19 dX1_liveLine_19 ?_
    refine x_iload_n F dX1_liveLine_22 rfl 2 rfl ?_
    obtain ⟨x23, c23, h⟩ := bdS h
    refine x_aI F c23 dX1_liveLine_23 ?_
    refine x_aload_n F dX1_liveLine_24 rfl 0 rfl ?_
    obtain ⟨x25, c25, h⟩ := bdS h
    refine x_getR F (ci := 1) (C := RX1) (T := TX1) (N := 11) rfl ⟨by decide, rfl⟩ inU1 4 (by decide) (fun _ _ _ => rfl) wl_138 c25 dX1_liveLine_25 ?_
    refine x_iload_n F dX1_liveLine_28 rfl 2 rfl ?_
    obtain ⟨x29, c29, h⟩ := bdS h
    refine x_aI F c29 dX1_liveLine_29 ?_
    refine x_aload_n F dX1_liveLine_30 rfl 0 rfl ?_
    obtain ⟨x31, c31, h⟩ := bdS h
    refine x_getR F (ci := 1) (C := RX1) (T := TX1) (N := 11) rfl ⟨by decide, rfl⟩ inU1 5 (by decide) (fun _ _ _ => rfl) wl_139 c31 dX1_liveLine_31 ?_
    refine x_iload_n F dX1_liveLine_34 rfl 2 rfl ?_
    obtain ⟨x35, c35, h⟩ := bdS h
    refine x_aI F c35 dX1_liveLine_35 ?_
    obtain ⟨k36, h⟩ := gdS h
    obtain ⟨⟨x36, M36⟩, c36, h⟩ := bdS h
    dsimp only at h
    refine x_callV F (As := [.ref (b + v1), .int x17, .int x23, .int x29, .int x35]) (rest := []) (res := (some (.int x36))) (ci := 1) (q := (RX1, TX1, 11)) rfl (by decide) k36 (k_X1_liveWriting l b D cy N v0 v1 x17 x23 x29 x35 M _ _ c36) wl_261 wl_262 wl_263 wl_219 wl_253 hd_X1_liveWriting ⟨Nat.le_of_ble_eq_true rfl, Nat.le_of_ble_eq_true rfl⟩ ⟨Nat.le_refl _, Nat.le_refl _⟩ (Nat.le_of_ble_eq_true rfl) rfl dX1_liveLine_36 ?_
    obtain ⟨rfl, rfl⟩ := retS h
    exact x_iret F hr hl dX1_liveLine_39
theorem hd_X1_liveLine : (yX1_liveLine).cls = RX1 ∧ (yX1_liveLine).cls ≠ "java/lang/invoke/MethodHandle" ∧ (yX1_liveLine).cls ≠ "java/lang/invoke/VarHandle" ∧ (parseMethodDescriptor (yX1_liveLine).desc).map (fun d => d.parameters.length) = some 2 := by decide +kernel
theorem dX1_liveIn_0 : decode cX1_liveIn 0 = .ok (.aload_n 0, 1) := by decide +kernel
theorem dX1_liveIn_1 : decode cX1_liveIn 1 = .ok (.iconst 0, 1) := by decide +kernel
theorem dX1_liveIn_2 : decode cX1_liveIn 2 = .ok (.putfield 31, 3) := by decide +kernel
theorem dX1_liveIn_5 : decode cX1_liveIn 5 = .ok (.aload_n 0, 1) := by decide +kernel
theorem dX1_liveIn_6 : decode cX1_liveIn 6 = .ok (.iconst 0, 1) := by decide +kernel
theorem dX1_liveIn_7 : decode cX1_liveIn 7 = .ok (.putfield 34, 3) := by decide +kernel
theorem dX1_liveIn_10 : decode cX1_liveIn 10 = .ok (.iconst 0, 1) := by decide +kernel
theorem dX1_liveIn_11 : decode cX1_liveIn 11 = .ok (.istore_n 2, 1) := by decide +kernel
theorem dX1_liveIn_12 : decode cX1_liveIn 12 = .ok (.iload_n 2, 1) := by decide +kernel
theorem dX1_liveIn_13 : decode cX1_liveIn 13 = .ok (.aload_n 0, 1) := by decide +kernel
theorem dX1_liveIn_14 : decode cX1_liveIn 14 = .ok (.getfield 27, 3) := by decide +kernel
theorem dX1_liveIn_17 : decode cX1_liveIn 17 = .ok (.if_icmp .ge 43, 3) := by decide +kernel
theorem dX1_liveIn_20 : decode cX1_liveIn 20 = .ok (.aload_n 0, 1) := by decide +kernel
theorem dX1_liveIn_21 : decode cX1_liveIn 21 = .ok (.getfield 31, 3) := by decide +kernel
theorem dX1_liveIn_24 : decode cX1_liveIn 24 = .ok (.ifCond .ne 36, 3) := by decide +kernel
theorem dX1_liveIn_27 : decode cX1_liveIn 27 = .ok (.aload_n 0, 1) := by decide +kernel
theorem dX1_liveIn_28 : decode cX1_liveIn 28 = .ok (.aload_n 0, 1) := by decide +kernel
theorem dX1_liveIn_29 : decode cX1_liveIn 29 = .ok (.aload_n 1, 1) := by decide +kernel
theorem dX1_liveIn_30 : decode cX1_liveIn 30 = .ok (.iload_n 2, 1) := by decide +kernel
theorem dX1_liveIn_31 : decode cX1_liveIn 31 = .ok (.invokevirtual 116, 3) := by decide +kernel
theorem dX1_liveIn_34 : decode cX1_liveIn 34 = .ok (.putfield 31, 3) := by decide +kernel
theorem dX1_liveIn_37 : decode cX1_liveIn 37 = .ok (.aload_n 0, 1) := by decide +kernel
theorem dX1_liveIn_38 : decode cX1_liveIn 38 = .ok (.getfield 31, 3) := by decide +kernel
theorem dX1_liveIn_41 : decode cX1_liveIn 41 = .ok (.ifCond .ne 13, 3) := by decide +kernel
theorem dX1_liveIn_44 : decode cX1_liveIn 44 = .ok (.aload_n 0, 1) := by decide +kernel
theorem dX1_liveIn_45 : decode cX1_liveIn 45 = .ok (.dup, 1) := by decide +kernel
theorem dX1_liveIn_46 : decode cX1_liveIn 46 = .ok (.getfield 34, 3) := by decide +kernel
theorem dX1_liveIn_49 : decode cX1_liveIn 49 = .ok (.iconst 1, 1) := by decide +kernel
theorem dX1_liveIn_50 : decode cX1_liveIn 50 = .ok (.iadd, 1) := by decide +kernel
theorem dX1_liveIn_51 : decode cX1_liveIn 51 = .ok (.putfield 34, 3) := by decide +kernel
theorem dX1_liveIn_54 : decode cX1_liveIn 54 = .ok (.iinc 2 1, 3) := by decide +kernel
theorem dX1_liveIn_57 : decode cX1_liveIn 57 = .ok (.goto (-45), 3) := by decide +kernel
theorem dX1_liveIn_60 : decode cX1_liveIn 60 = .ok (.aload_n 0, 1) := by decide +kernel
theorem dX1_liveIn_61 : decode cX1_liveIn 61 = .ok (.aload_n 1, 1) := by decide +kernel
theorem dX1_liveIn_62 : decode cX1_liveIn 62 = .ok (.getfield 120, 3) := by decide +kernel
theorem dX1_liveIn_65 : decode cX1_liveIn 65 = .ok (.putfield 37, 3) := by decide +kernel
theorem dX1_liveIn_68 : decode cX1_liveIn 68 = .ok (.aload_n 0, 1) := by decide +kernel
theorem dX1_liveIn_69 : decode cX1_liveIn 69 = .ok (.aload_n 1, 1) := by decide +kernel
theorem dX1_liveIn_70 : decode cX1_liveIn 70 = .ok (.getfield 125, 3) := by decide +kernel
theorem dX1_liveIn_73 : decode cX1_liveIn 73 = .ok (.putfield 40, 3) := by decide +kernel
theorem dX1_liveIn_76 : decode cX1_liveIn 76 = .ok (.aload_n 0, 1) := by decide +kernel
theorem dX1_liveIn_77 : decode cX1_liveIn 77 = .ok (.getfield 31, 3) := by decide +kernel
theorem dX1_liveIn_80 : decode cX1_liveIn 80 = .ok (.ifCond .ne 7, 3) := by decide +kernel
theorem dX1_liveIn_83 : decode cX1_liveIn 83 = .ok (.iconst (-1), 1) := by decide +kernel
theorem dX1_liveIn_84 : decode cX1_liveIn 84 = .ok (.goto 7, 3) := by decide +kernel
theorem dX1_liveIn_87 : decode cX1_liveIn 87 = .ok (.aload_n 0, 1) := by decide +kernel
theorem dX1_liveIn_88 : decode cX1_liveIn 88 = .ok (.getfield 34, 3) := by decide +kernel
theorem dX1_liveIn_91 : decode cX1_liveIn 91 = .ok (.ireturn, 1) := by decide +kernel
def fX1_liveIn_J60 (N : Nat) (v0 : Nat) (v1 : Nat) (M : Mem) : Option (Int32 × Mem) := ((fI M 0 v1 9).bind fun x62 => ((pI M 1 v0 9 x62).bind fun M65 => ((fI M65 0 v1 8).bind fun x70 => ((pI M65 1 v0 10 x70).bind fun M73 => ((fI M73 1 v0 7).bind fun x77 => (if x77 = 0 then some ((-1), M73) else ((fI M73 1 v0 8).bind fun x88 => some (x88, M73))))))))
def fX1_liveIn_L12 (N : Nat) (v0 : Nat) (v1 : Nat) : Nat → Int32 → Mem → Option (Mem)
  | 0, _, _ => none
  | n + 1, v2, M => ((fI M 1 v0 6).bind fun x14 => (if x14 ≤ v2 then some M else ((fI M 1 v0 7).bind fun x21 => (if x21 = 0 then (if mK M v0 = 2 then ((fX1_liveLine N v0 v1 v2 M).bind fun (x31, M31) => ((pI M31 1 v0 7 x31).bind fun M34 => ((fI M34 1 v0 7).bind fun x38 => (if x38 = 0 then ((fI M34 1 v0 8).bind fun x46 => ((pI M34 1 v0 8 (x46 + 1)).bind fun M51 => fX1_liveIn_L12 N v0 v1 n (v2 + 1) M51)) else fX1_liveIn_L12 N v0 v1 n (v2 + 1) M34)))) else none) else some M))))
def fX1_liveIn (N : Nat) (v0 : Nat) (v1 : Nat) (M : Mem) : Option (Int32 × Mem) := ((pI M 1 v0 7 0).bind fun M2 => ((pI M2 1 v0 8 0).bind fun M7 => ((fX1_liveIn_L12 N v0 v1 N 0 M7).bind fun o12 => fX1_liveIn_J60 N v0 v1 o12)))
set_option maxHeartbeats 4000000 in
set_option maxRecDepth 100000 in
theorem k_X1_liveIn (l : Launch) (b : Nat) (D : va_G) (cy : Nat → ClassId) (N : Nat) (v0 : Nat) (v1 : Nat) (M : Mem) (r : Int32) (Mf : Mem) (h : fX1_liveIn N v0 v1 M = some (r, Mf)) : Ct l yX1_liveIn cX1_liveIn 3 (some .int) 7 0 0 b D cy [.ref (b + v0), .ref (b + v1)] M (some (.int r)) Mf := by
  refine Ct_of (own := RX1) (by decide) rfl (Nat.le_of_ble_eq_true rfl) ?_
  intro p e s m args below meth c F hr hl hmn
  unfold fX1_liveIn at h
  have J60 : ∀ (v0 : Nat) (v1 : Nat) (M : Mem), fX1_liveIn_J60 N v0 v1 M = some (r, Mf) → X p l e ({ frames := 7, cells := 0, slots := 0, locals := 100 * 7 }) s m args below meth c (MQ below (Qm b D cy (some (.int r)) Mf) args s 0 0 (fun q => b ≤ q)) 3 b D cy 0 0 M 60 [(0, .ref (b + v0)), (1, .ref (b + v1))] [] := by
    intro v0 v1 M h
    unfold fX1_liveIn_J60 at h
    refine x_aload_n F dX1_liveIn_60 rfl 0 rfl ?_
    refine x_aload_n F dX1_liveIn_61 rfl 1 rfl ?_
    obtain ⟨x62, c62, h⟩ := bdS h
    refine x_getI F (ci := 0) (C := RX0) (T := TX0) (N := 12) rfl ⟨by decide, rfl⟩ inU0 9 (by decide) (fun _ _ _ => rfl) wl_272 c62 dX1_liveIn_62 ?_
    obtain ⟨M65, c65, h⟩ := bdS h
    refine x_putI F (ci := 1) (C := RX1) (T := TX1) (N := 11) rfl ⟨by decide, rfl⟩ inU1 tyX1_ok nmX1 9 (by decide) rfl rfl wl_143 c65 dX1_liveIn_65 ?_
    refine x_aload_n F dX1_liveIn_68 rfl 0 rfl ?_
    refine x_aload_n F dX1_liveIn_69 rfl 1 rfl ?_
    obtain ⟨x70, c70, h⟩ := bdS h
    refine x_getI F (ci := 0) (C := RX0) (T := TX0) (N := 12) rfl ⟨by decide, rfl⟩ inU0 8 (by decide) (fun _ _ _ => rfl) wl_273 c70 dX1_liveIn_70 ?_
    obtain ⟨M73, c73, h⟩ := bdS h
    refine x_putI F (ci := 1) (C := RX1) (T := TX1) (N := 11) rfl ⟨by decide, rfl⟩ inU1 tyX1_ok nmX1 10 (by decide) rfl rfl wl_144 c73 dX1_liveIn_73 ?_
    refine x_aload_n F dX1_liveIn_76 rfl 0 rfl ?_
    obtain ⟨x77, c77, h⟩ := bdS h
    refine x_getI F (ci := 1) (C := RX1) (T := TX1) (N := 11) rfl ⟨by decide, rfl⟩ inU1 7 (by decide) (fun _ _ _ => rfl) wl_141 c77 dX1_liveIn_77 ?_
    refine x_if_ne F (tgt := 87) dX1_liveIn_80 (by decide) (fun c80 => ?_) (fun c80 => ?_)
    · rw [if_neg c80] at h
      refine x_aload_n F dX1_liveIn_87 rfl 0 rfl ?_
      obtain ⟨x88, c88, h⟩ := bdS h
      refine x_getI F (ci := 1) (C := RX1) (T := TX1) (N := 11) rfl ⟨by decide, rfl⟩ inU1 8 (by decide) (fun _ _ _ => rfl) wl_142 c88 dX1_liveIn_88 ?_
      obtain ⟨rfl, rfl⟩ := retS h
      exact x_iret F hr hl dX1_liveIn_91
    · rw [if_pos c80] at h
      refine x_iconst F (v := (-1)) dX1_liveIn_83 (by decide) ?_
      refine x_goto F (tgt := 91) dX1_liveIn_84 (by decide) ?_
      obtain ⟨rfl, rfl⟩ := retS h
      exact x_iret F hr hl dX1_liveIn_91
  show X p l e ({ frames := 7, cells := 0, slots := 0, locals := 100 * 7 }) s m args below meth c (MQ below (Qm b D cy (some (.int r)) Mf) args s 0 0 (fun q => b ≤ q)) 3 b D cy 0 0 M 0 [(0, .ref (b + v0)), (1, .ref (b + v1))] []
  refine x_aload_n F dX1_liveIn_0 rfl 0 rfl ?_
  refine x_iconst F (v := 0) dX1_liveIn_1 (by decide) ?_
  obtain ⟨M2, c2, h⟩ := bdS h
  refine x_putI F (ci := 1) (C := RX1) (T := TX1) (N := 11) rfl ⟨by decide, rfl⟩ inU1 tyX1_ok nmX1 7 (by decide) rfl rfl wl_141 c2 dX1_liveIn_2 ?_
  refine x_aload_n F dX1_liveIn_5 rfl 0 rfl ?_
  refine x_iconst F (v := 0) dX1_liveIn_6 (by decide) ?_
  obtain ⟨M7, c7, h⟩ := bdS h
  refine x_putI F (ci := 1) (C := RX1) (T := TX1) (N := 11) rfl ⟨by decide, rfl⟩ inU1 tyX1_ok nmX1 8 (by decide) rfl rfl wl_142 c7 dX1_liveIn_7 ?_
  refine x_iconst F (v := 0) dX1_liveIn_10 (by decide) ?_
  refine x_istore_n F (lv' := [(2, .int 0), (0, .ref (b + v0)), (1, .ref (b + v1))]) dX1_liveIn_11 rfl (by decide) rfl ?_
  have L12 : ∀ (v0 : Nat) (v1 : Nat) (n : Nat) (v2 : Int32) (M : Mem) (o : Mem), fX1_liveIn_L12 N v0 v1 n v2 M = some o → X p l e ({ frames := 7, cells := 0, slots := 0, locals := 100 * 7 }) s m args below meth c (MQ below (Qm b D cy (some (.int r)) Mf) args s 0 0 (fun q => b ≤ q)) 3 b D cy 0 0 o 60 [(0, .ref (b + v0)), (1, .ref (b + v1))] [] → X p l e ({ frames := 7, cells := 0, slots := 0, locals := 100 * 7 }) s m args below meth c (MQ below (Qm b D cy (some (.int r)) Mf) args s 0 0 (fun q => b ≤ q)) 3 b D cy 0 0 M 12 [(0, .ref (b + v0)), (1, .ref (b + v1)), (2, .int v2)] [] := by
    intro v0 v1 n
    induction n with
    | zero => intro v2 M o h; exact absurd h (by rw [fX1_liveIn_L12]; exact fun z => by cases z)
    | succ n ih =>
      intro v2 M o h hE
      rw [fX1_liveIn_L12] at h
      refine x_iload_n F dX1_liveIn_12 rfl 2 rfl ?_
      refine x_aload_n F dX1_liveIn_13 rfl 0 rfl ?_
      obtain ⟨x14, c14, h⟩ := bdS h
      refine x_getI F (ci := 1) (C := RX1) (T := TX1) (N := 11) rfl ⟨by decide, rfl⟩ inU1 6 (by decide) (fun _ _ _ => rfl) wl_140 c14 dX1_liveIn_14 ?_
      refine x_icmp_ge F (tgt := 60) dX1_liveIn_17 (by decide) (fun c17 => ?_) (fun c17 => ?_)
      · rw [if_pos c17] at h
        obtain rfl := Option.some.inj h
        refine x_sub [0, 1] rfl ?_
        exact hE
      · rw [if_neg c17] at h
        refine x_aload_n F dX1_liveIn_20 rfl 0 rfl ?_
        obtain ⟨x21, c21, h⟩ := bdS h
        refine x_getI F (ci := 1) (C := RX1) (T := TX1) (N := 11) rfl ⟨by decide, rfl⟩ inU1 7 (by decide) (fun _ _ _ => rfl) wl_141 c21 dX1_liveIn_21 ?_
        refine x_if_ne F (tgt := 60) dX1_liveIn_24 (by decide) (fun c24 => ?_) (fun c24 => ?_)
        · rw [if_neg c24] at h
          obtain rfl := Option.some.inj h
          refine x_sub [0, 1] rfl ?_
          exact hE
        · rw [if_pos c24] at h
          refine x_aload_n F dX1_liveIn_27 rfl 0 rfl ?_
          refine x_aload_n F dX1_liveIn_28 rfl 0 rfl ?_
          refine x_aload_n F dX1_liveIn_29 rfl 1 rfl ?_
          refine x_iload_n F dX1_liveIn_30 rfl 2 rfl ?_
          obtain ⟨k31, h⟩ := gdS h
          obtain ⟨⟨x31, M31⟩, c31, h⟩ := bdS h
          dsimp only at h
          refine x_callV F (As := [.ref (b + v1), .int v2]) (rest := [.ref (b + v0)]) (res := (some (.int x31))) (ci := 1) (q := (RX1, TX1, 11)) rfl (by decide) k31 (k_X1_liveLine l b D cy N v0 v1 v2 M _ _ c31) wl_274 wl_275 wl_276 wl_219 wl_271 hd_X1_liveLine ⟨Nat.le_of_ble_eq_true rfl, Nat.le_of_ble_eq_true rfl⟩ ⟨Nat.le_refl _, Nat.le_refl _⟩ (Nat.le_of_ble_eq_true rfl) rfl dX1_liveIn_31 ?_
          obtain ⟨M34, c34, h⟩ := bdS h
          refine x_putI F (ci := 1) (C := RX1) (T := TX1) (N := 11) rfl ⟨by decide, rfl⟩ inU1 tyX1_ok nmX1 7 (by decide) rfl rfl wl_141 c34 dX1_liveIn_34 ?_
          refine x_aload_n F dX1_liveIn_37 rfl 0 rfl ?_
          obtain ⟨x38, c38, h⟩ := bdS h
          refine x_getI F (ci := 1) (C := RX1) (T := TX1) (N := 11) rfl ⟨by decide, rfl⟩ inU1 7 (by decide) (fun _ _ _ => rfl) wl_141 c38 dX1_liveIn_38 ?_
          refine x_if_ne F (tgt := 54) dX1_liveIn_41 (by decide) (fun c41 => ?_) (fun c41 => ?_)
          · rw [if_neg c41] at h
            refine x_iinc F (v := v2 + 1) (lv' := [(2, .int (v2 + 1)), (0, .ref (b + v0)), (1, .ref (b + v1))]) dX1_liveIn_54 2 rfl rfl (by decide) rfl ?_
            refine x_goto F (tgt := 12) dX1_liveIn_57 (by decide) ?_
            refine x_sub [1, 2, 0] rfl ?_
            exact ih (v2 + 1) M34 o h hE
          · rw [if_pos c41] at h
            refine x_aload_n F dX1_liveIn_44 rfl 0 rfl ?_
            refine x_dup F dX1_liveIn_45 rfl ?_
            obtain ⟨x46, c46, h⟩ := bdS h
            refine x_getI F (ci := 1) (C := RX1) (T := TX1) (N := 11) rfl ⟨by decide, rfl⟩ inU1 8 (by decide) (fun _ _ _ => rfl) wl_142 c46 dX1_liveIn_46 ?_
            refine x_iconst F (v := 1) dX1_liveIn_49 (by decide) ?_
            refine x_iadd F dX1_liveIn_50 ?_
            obtain ⟨M51, c51, h⟩ := bdS h
            refine x_putI F (ci := 1) (C := RX1) (T := TX1) (N := 11) rfl ⟨by decide, rfl⟩ inU1 tyX1_ok nmX1 8 (by decide) rfl rfl wl_142 c51 dX1_liveIn_51 ?_
            refine x_iinc F (v := v2 + 1) (lv' := [(2, .int (v2 + 1)), (0, .ref (b + v0)), (1, .ref (b + v1))]) dX1_liveIn_54 2 rfl rfl (by decide) rfl ?_
            refine x_goto F (tgt := 12) dX1_liveIn_57 (by decide) ?_
            refine x_sub [1, 2, 0] rfl ?_
            exact ih (v2 + 1) M51 o h hE
  obtain ⟨o12, h12, h⟩ := bdS h
  refine x_sub [1, 2, 0] rfl ?_
  refine L12 v0 v1 N 0 M7 o12 h12 ?_
  exact J60 v0 v1 o12 h
theorem dX2_start_0 : decode cX2_start 0 = .ok (.aload_n 0, 1) := by decide +kernel
theorem dX2_start_1 : decode cX2_start 1 = .ok (.iload_n 1, 1) := by decide +kernel
theorem dX2_start_2 : decode cX2_start 2 = .ok (.putfield 9, 3) := by decide +kernel
theorem dX2_start_5 : decode cX2_start 5 = .ok (.return_, 1) := by decide +kernel
def fX2_start (N : Nat) (v0 : Nat) (v1 : Int32) (M : Mem) : Option (Unit × Mem) := ((pI M 2 v0 1 v1).bind fun M2 => some ((), M2))
set_option maxHeartbeats 4000000 in
set_option maxRecDepth 100000 in
theorem k_X2_start (l : Launch) (b : Nat) (D : va_G) (cy : Nat → ClassId) (N : Nat) (v0 : Nat) (v1 : Int32) (M : Mem) (r : Unit) (Mf : Mem) (h : fX2_start N v0 v1 M = some (r, Mf)) : Ct l yX2_start cX2_start 2 none 1 0 0 b D cy [.ref (b + v0), .int v1] M none Mf := by
  refine Ct_of (own := RX2) (by decide) rfl (Nat.le_of_ble_eq_true rfl) ?_
  intro p e s m args below meth c F hr hl hmn
  unfold fX2_start at h
  show X p l e ({ frames := 1, cells := 0, slots := 0, locals := 100 * 1 }) s m args below meth c (MQ below (Qm b D cy none Mf) args s 0 0 (fun q => b ≤ q)) 2 b D cy 0 0 M 0 [(0, .ref (b + v0)), (1, .int v1)] []
  refine x_aload_n F dX2_start_0 rfl 0 rfl ?_
  refine x_iload_n F dX2_start_1 rfl 1 rfl ?_
  obtain ⟨M2, c2, h⟩ := bdS h
  refine x_putI F (ci := 2) (C := RX2) (T := TX2) (N := 2) rfl ⟨by decide, rfl⟩ inU2 tyX2_ok nmX2 1 (by decide) rfl rfl wl_280 c2 dX2_start_2 ?_
  obtain ⟨rfl, rfl⟩ := retS h
  exact x_vret F hr hl dX2_start_5
theorem dX2_drawOf_0 : decode cX2_drawOf 0 = .ok (.aload_n 0, 1) := by decide +kernel
theorem dX2_drawOf_1 : decode cX2_drawOf 1 = .ok (.aload_n 0, 1) := by decide +kernel
theorem dX2_drawOf_2 : decode cX2_drawOf 2 = .ok (.getfield 9, 3) := by decide +kernel
theorem dX2_drawOf_5 : decode cX2_drawOf 5 = .ok (.ldc 19, 2) := by decide +kernel
theorem dX2_drawOf_7 : decode cX2_drawOf 7 = .ok (.imul, 1) := by decide +kernel
theorem dX2_drawOf_8 : decode cX2_drawOf 8 = .ok (.sipush 12345, 3) := by decide +kernel
theorem dX2_drawOf_11 : decode cX2_drawOf 11 = .ok (.iadd, 1) := by decide +kernel
theorem dX2_drawOf_12 : decode cX2_drawOf 12 = .ok (.putfield 9, 3) := by decide +kernel
theorem dX2_drawOf_15 : decode cX2_drawOf 15 = .ok (.iload_n 1, 1) := by decide +kernel
theorem dX2_drawOf_16 : decode cX2_drawOf 16 = .ok (.ifCond .le 15, 3) := by decide +kernel
theorem dX2_drawOf_19 : decode cX2_drawOf 19 = .ok (.aload_n 0, 1) := by decide +kernel
theorem dX2_drawOf_20 : decode cX2_drawOf 20 = .ok (.getfield 9, 3) := by decide +kernel
theorem dX2_drawOf_23 : decode cX2_drawOf 23 = .ok (.bipush 8, 2) := by decide +kernel
theorem dX2_drawOf_25 : decode cX2_drawOf 25 = .ok (.iushr, 1) := by decide +kernel
theorem dX2_drawOf_26 : decode cX2_drawOf 26 = .ok (.iload_n 1, 1) := by decide +kernel
theorem dX2_drawOf_27 : decode cX2_drawOf 27 = .ok (.irem, 1) := by decide +kernel
theorem dX2_drawOf_28 : decode cX2_drawOf 28 = .ok (.goto 4, 3) := by decide +kernel
theorem dX2_drawOf_31 : decode cX2_drawOf 31 = .ok (.iconst 0, 1) := by decide +kernel
theorem dX2_drawOf_32 : decode cX2_drawOf 32 = .ok (.ireturn, 1) := by decide +kernel
def fX2_drawOf (N : Nat) (v0 : Nat) (v1 : Int32) (M : Mem) : Option (Int32 × Mem) := ((fI M 2 v0 1).bind fun x2 => ((pI M 2 v0 1 ((x2 * ((1103515245))) + 12345)).bind fun M12 => (if v1 ≤ 0 then some (0, M12) else ((fI M12 2 v0 1).bind fun x20 => (if ¬ v1 = 0 then some ((UInt32.toInt32 ((Int32.toUInt32 x20) >>> ((Int32.toUInt32 8) &&& Int32.toUInt32 31))) - (UInt32.toInt32 ((Int32.toUInt32 x20) >>> ((Int32.toUInt32 8) &&& Int32.toUInt32 31))) / v1 * v1, M12) else none)))))
set_option maxHeartbeats 4000000 in
set_option maxRecDepth 100000 in
theorem k_X2_drawOf (l : Launch) (b : Nat) (D : va_G) (cy : Nat → ClassId) (N : Nat) (v0 : Nat) (v1 : Int32) (M : Mem) (r : Int32) (Mf : Mem) (h : fX2_drawOf N v0 v1 M = some (r, Mf)) : Ct l yX2_drawOf cX2_drawOf 2 (some .int) 1 0 0 b D cy [.ref (b + v0), .int v1] M (some (.int r)) Mf := by
  refine Ct_of (own := RX2) (by decide) rfl (Nat.le_of_ble_eq_true rfl) ?_
  intro p e s m args below meth c F hr hl hmn
  unfold fX2_drawOf at h
  show X p l e ({ frames := 1, cells := 0, slots := 0, locals := 100 * 1 }) s m args below meth c (MQ below (Qm b D cy (some (.int r)) Mf) args s 0 0 (fun q => b ≤ q)) 2 b D cy 0 0 M 0 [(0, .ref (b + v0)), (1, .int v1)] []
  refine x_aload_n F dX2_drawOf_0 rfl 0 rfl ?_
  refine x_aload_n F dX2_drawOf_1 rfl 0 rfl ?_
  obtain ⟨x2, c2, h⟩ := bdS h
  refine x_getI F (ci := 2) (C := RX2) (T := TX2) (N := 2) rfl ⟨by decide, rfl⟩ inU2 1 (by decide) (fun _ _ _ => rfl) wl_280 c2 dX2_drawOf_2 ?_
  refine x_ldc F (v := (1103515245)) dX2_drawOf_5 wl_284 ?_
  refine x_imul F dX2_drawOf_7 ?_
  refine x_sipush F (v := 12345) dX2_drawOf_8 (by decide) ?_
  refine x_iadd F dX2_drawOf_11 ?_
  obtain ⟨M12, c12, h⟩ := bdS h
  refine x_putI F (ci := 2) (C := RX2) (T := TX2) (N := 2) rfl ⟨by decide, rfl⟩ inU2 tyX2_ok nmX2 1 (by decide) rfl rfl wl_280 c12 dX2_drawOf_12 ?_
  refine x_iload_n F dX2_drawOf_15 rfl 1 rfl ?_
  refine x_if_le F (tgt := 31) dX2_drawOf_16 (by decide) (fun c16 => ?_) (fun c16 => ?_)
  · rw [if_pos c16] at h
    refine x_iconst F (v := 0) dX2_drawOf_31 (by decide) ?_
    obtain ⟨rfl, rfl⟩ := retS h
    exact x_iret F hr hl dX2_drawOf_32
  · rw [if_neg c16] at h
    refine x_aload_n F dX2_drawOf_19 rfl 0 rfl ?_
    obtain ⟨x20, c20, h⟩ := bdS h
    refine x_getI F (ci := 2) (C := RX2) (T := TX2) (N := 2) rfl ⟨by decide, rfl⟩ inU2 1 (by decide) (fun _ _ _ => rfl) wl_280 c20 dX2_drawOf_20 ?_
    refine x_bipush F (v := 8) dX2_drawOf_23 (by decide) ?_
    refine x_iushr F dX2_drawOf_25 ?_
    refine x_iload_n F dX2_drawOf_26 rfl 1 rfl ?_
    obtain ⟨c27, h⟩ := gdS h
    refine x_irem F dX2_drawOf_27 c27 ?_
    refine x_goto F (tgt := 32) dX2_drawOf_28 (by decide) ?_
    obtain ⟨rfl, rfl⟩ := retS h
    exact x_iret F hr hl dX2_drawOf_32
theorem hd_X2_drawOf : (yX2_drawOf).cls = RX2 ∧ (yX2_drawOf).cls ≠ "java/lang/invoke/MethodHandle" ∧ (yX2_drawOf).cls ≠ "java/lang/invoke/VarHandle" ∧ (parseMethodDescriptor (yX2_drawOf).desc).map (fun d => d.parameters.length) = some 1 := by decide +kernel
theorem dX2_letTread_0 : decode cX2_letTread 0 = .ok (.aload_n 0, 1) := by decide +kernel
theorem dX2_letTread_1 : decode cX2_letTread 1 = .ok (.aload_n 0, 1) := by decide +kernel
theorem dX2_letTread_2 : decode cX2_letTread 2 = .ok (.getfield 15, 3) := by decide +kernel
theorem dX2_letTread_5 : decode cX2_letTread 5 = .ok (.getfield 20, 3) := by decide +kernel
theorem dX2_letTread_8 : decode cX2_letTread 8 = .ok (.invokevirtual 45, 3) := by decide +kernel
theorem dX2_letTread_11 : decode cX2_letTread 11 = .ok (.istore_n 2, 1) := by decide +kernel
theorem dX2_letTread_12 : decode cX2_letTread 12 = .ok (.aload_n 0, 1) := by decide +kernel
theorem dX2_letTread_13 : decode cX2_letTread 13 = .ok (.bipush 12, 2) := by decide +kernel
theorem dX2_letTread_15 : decode cX2_letTread 15 = .ok (.invokevirtual 45, 3) := by decide +kernel
theorem dX2_letTread_18 : decode cX2_letTread 18 = .ok (.istore_n 3, 1) := by decide +kernel
theorem dX2_letTread_19 : decode cX2_letTread 19 = .ok (.aload_n 0, 1) := by decide +kernel
theorem dX2_letTread_20 : decode cX2_letTread 20 = .ok (.getfield 15, 3) := by decide +kernel
theorem dX2_letTread_23 : decode cX2_letTread 23 = .ok (.iload_n 2, 1) := by decide +kernel
theorem dX2_letTread_24 : decode cX2_letTread 24 = .ok (.iload_n 3, 1) := by decide +kernel
theorem dX2_letTread_25 : decode cX2_letTread 25 = .ok (.invokevirtual 53, 3) := by decide +kernel
theorem dX2_letTread_28 : decode cX2_letTread 28 = .ok (.ifCond .eq 18, 3) := by decide +kernel
theorem dX2_letTread_31 : decode cX2_letTread 31 = .ok (.aload_n 1, 1) := by decide +kernel
theorem dX2_letTread_32 : decode cX2_letTread 32 = .ok (.iload_n 2, 1) := by decide +kernel
theorem dX2_letTread_33 : decode cX2_letTread 33 = .ok (.iload_n 3, 1) := by decide +kernel
theorem dX2_letTread_34 : decode cX2_letTread 34 = .ok (.invokevirtual 69, 3) := by decide +kernel
theorem dX2_letTread_37 : decode cX2_letTread 37 = .ok (.ifCond .ne 9, 3) := by decide +kernel
theorem dX2_letTread_40 : decode cX2_letTread 40 = .ok (.aload_n 1, 1) := by decide +kernel
theorem dX2_letTread_41 : decode cX2_letTread 41 = .ok (.iload_n 2, 1) := by decide +kernel
theorem dX2_letTread_42 : decode cX2_letTread 42 = .ok (.iload_n 3, 1) := by decide +kernel
theorem dX2_letTread_43 : decode cX2_letTread 43 = .ok (.invokevirtual 72, 3) := by decide +kernel
theorem dX2_letTread_46 : decode cX2_letTread 46 = .ok (.return_, 1) := by decide +kernel
def fX2_letTread (N : Nat) (v0 : Nat) (v1 : Nat) (M : Mem) : Option (Unit × Mem) := ((fR M 2 v0 0).bind fun x2 => ((fI M 8 x2 0).bind fun x5 => (if mK M v0 = 3 then ((fX2_drawOf N v0 x5 M).bind fun (x8, M8) => (if mK M8 v0 = 3 then ((fX2_drawOf N v0 12 M8).bind fun (x15, M15) => ((fR M15 2 v0 0).bind fun x20 => (if mK M15 x20 = 9 then ((fX8_hasPlace N x20 x8 x15 M15).bind fun (x25, M25) => (if x25 = 0 then some ((), M25) else (if mK M25 v1 = 1 then ((fX0_whyNotTread N v1 x8 x15 M25).bind fun (x34, M34) => (if x34 = 0 then (if mK M34 v1 = 1 then ((fX0_removeSign N v1 x8 x15 M34).bind fun (u43, M43) => some ((), M43)) else none) else some ((), M34))) else none))) else none))) else none)) else none)))
set_option maxHeartbeats 4000000 in
set_option maxRecDepth 100000 in
theorem k_X2_letTread (l : Launch) (b : Nat) (D : va_G) (cy : Nat → ClassId) (N : Nat) (v0 : Nat) (v1 : Nat) (M : Mem) (r : Unit) (Mf : Mem) (h : fX2_letTread N v0 v1 M = some (r, Mf)) : Ct l yX2_letTread cX2_letTread 4 none 3 0 0 b D cy [.ref (b + v0), .ref (b + v1)] M none Mf := by
  refine Ct_of (own := RX2) (by decide) rfl (Nat.le_of_ble_eq_true rfl) ?_
  intro p e s m args below meth c F hr hl hmn
  unfold fX2_letTread at h
  show X p l e ({ frames := 3, cells := 0, slots := 0, locals := 100 * 3 }) s m args below meth c (MQ below (Qm b D cy none Mf) args s 0 0 (fun q => b ≤ q)) 4 b D cy 0 0 M 0 [(0, .ref (b + v0)), (1, .ref (b + v1))] []
  refine x_aload_n F dX2_letTread_0 rfl 0 rfl ?_
  refine x_aload_n F dX2_letTread_1 rfl 0 rfl ?_
  obtain ⟨x2, c2, h⟩ := bdS h
  refine x_getR F (ci := 2) (C := RX2) (T := TX2) (N := 2) rfl ⟨by decide, rfl⟩ inU2 0 (by decide) (fun _ _ _ => rfl) wl_281 c2 dX2_letTread_2 ?_
  obtain ⟨x5, c5, h⟩ := bdS h
  refine x_getI F (ci := 8) (C := RX8) (T := TX8) (N := 17) rfl ⟨by decide, rfl⟩ inU8 0 (by decide) (fun _ _ _ => rfl) wl_286 c5 dX2_letTread_5 ?_
  obtain ⟨k8, h⟩ := gdS h
  obtain ⟨⟨x8, M8⟩, c8, h⟩ := bdS h
  dsimp only at h
  refine x_callV F (As := [.int x5]) (rest := []) (res := (some (.int x8))) (ci := 2) (q := (RX2, TX2, 2)) rfl (by decide) k8 (k_X2_drawOf l b D cy N v0 x5 M _ _ c8) wl_288 wl_289 wl_290 wl_291 wl_283 hd_X2_drawOf ⟨Nat.le_of_ble_eq_true rfl, Nat.le_of_ble_eq_true rfl⟩ ⟨Nat.le_refl _, Nat.le_refl _⟩ (Nat.le_of_ble_eq_true rfl) rfl dX2_letTread_8 ?_
  refine x_istore_n F (lv' := [(2, .int x8), (0, .ref (b + v0)), (1, .ref (b + v1))]) dX2_letTread_11 rfl (by decide) rfl ?_
  refine x_aload_n F dX2_letTread_12 rfl 1 rfl ?_
  refine x_bipush F (v := 12) dX2_letTread_13 (by decide) ?_
  obtain ⟨k15, h⟩ := gdS h
  obtain ⟨⟨x15, M15⟩, c15, h⟩ := bdS h
  dsimp only at h
  refine x_callV F (As := [.int 12]) (rest := []) (res := (some (.int x15))) (ci := 2) (q := (RX2, TX2, 2)) rfl (by decide) k15 (k_X2_drawOf l b D cy N v0 12 M8 _ _ c15) wl_288 wl_289 wl_290 wl_291 wl_283 hd_X2_drawOf ⟨Nat.le_of_ble_eq_true rfl, Nat.le_of_ble_eq_true rfl⟩ ⟨Nat.le_refl _, Nat.le_refl _⟩ (Nat.le_of_ble_eq_true rfl) rfl dX2_letTread_15 ?_
  refine x_istore_n F (lv' := [(3, .int x15), (2, .int x8), (0, .ref (b + v0)), (1, .ref (b + v1))]) dX2_letTread_18 rfl (by decide) rfl ?_
  refine x_aload_n F dX2_letTread_19 rfl 2 rfl ?_
  obtain ⟨x20, c20, h⟩ := bdS h
  refine x_getR F (ci := 2) (C := RX2) (T := TX2) (N := 2) rfl ⟨by decide, rfl⟩ inU2 0 (by decide) (fun _ _ _ => rfl) wl_281 c20 dX2_letTread_20 ?_
  refine x_iload_n F dX2_letTread_23 rfl 1 rfl ?_
  refine x_iload_n F dX2_letTread_24 rfl 0 rfl ?_
  obtain ⟨k25, h⟩ := gdS h
  obtain ⟨⟨x25, M25⟩, c25, h⟩ := bdS h
  dsimp only at h
  refine x_callV F (As := [.int x8, .int x15]) (rest := []) (res := (some (.int x25))) (ci := 8) (q := (RX8, TX8, 17)) rfl (by decide) k25 (k_X8_hasPlace l b D cy N x20 x8 x15 M15 _ _ c25) wl_292 wl_245 wl_246 wl_75 wl_239 hd_X8_hasPlace ⟨Nat.le_of_ble_eq_true rfl, Nat.le_of_ble_eq_true rfl⟩ ⟨Nat.le_refl _, Nat.le_refl _⟩ (Nat.le_of_ble_eq_true rfl) rfl dX2_letTread_25 ?_
  refine x_if_eq F (tgt := 46) dX2_letTread_28 (by decide) (fun c28 => ?_) (fun c28 => ?_)
  · rw [if_pos c28] at h
    obtain ⟨rfl, rfl⟩ := retS h
    exact x_vret F hr hl dX2_letTread_46
  · rw [if_neg c28] at h
    refine x_aload_n F dX2_letTread_31 rfl 3 rfl ?_
    refine x_iload_n F dX2_letTread_32 rfl 1 rfl ?_
    refine x_iload_n F dX2_letTread_33 rfl 0 rfl ?_
    obtain ⟨k34, h⟩ := gdS h
    obtain ⟨⟨x34, M34⟩, c34, h⟩ := bdS h
    dsimp only at h
    refine x_callV F (As := [.int x8, .int x15]) (rest := []) (res := (some (.int x34))) (ci := 0) (q := (RX0, TX0, 12)) rfl (by decide) k34 (k_X0_whyNotTread l b D cy N v1 x8 x15 M25 _ _ c34) wl_297 wl_255 wl_256 wl_52 wl_33 hd_X0_whyNotTread ⟨Nat.le_of_ble_eq_true rfl, Nat.le_of_ble_eq_true rfl⟩ ⟨Nat.le_refl _, Nat.le_refl _⟩ (Nat.le_of_ble_eq_true rfl) rfl dX2_letTread_34 ?_
    refine x_if_ne F (tgt := 46) dX2_letTread_37 (by decide) (fun c37 => ?_) (fun c37 => ?_)
    · rw [if_neg c37] at h
      obtain ⟨rfl, rfl⟩ := retS h
      exact x_vret F hr hl dX2_letTread_46
    · rw [if_pos c37] at h
      refine x_aload_n F dX2_letTread_40 rfl 3 rfl ?_
      refine x_iload_n F dX2_letTread_41 rfl 1 rfl ?_
      refine x_iload_n F dX2_letTread_42 rfl 0 rfl ?_
      obtain ⟨k43, h⟩ := gdS h
      obtain ⟨⟨u43, M43⟩, c43, h⟩ := bdS h
      dsimp only at h
      refine x_callV F (As := [.int x8, .int x15]) (rest := []) (res := none) (ci := 0) (q := (RX0, TX0, 12)) rfl (by decide) k43 (k_X0_removeSign l b D cy N v1 x8 x15 M34 _ _ c43) wl_298 wl_258 wl_259 wl_52 wl_34 hd_X0_removeSign ⟨Nat.le_of_ble_eq_true rfl, Nat.le_of_ble_eq_true rfl⟩ ⟨Nat.le_refl _, Nat.le_refl _⟩ (Nat.le_of_ble_eq_true rfl) rfl dX2_letTread_43 ?_
      obtain ⟨rfl, rfl⟩ := retS h
      exact x_vret F hr hl dX2_letTread_46
theorem dX2_letWrite_0 : decode cX2_letWrite 0 = .ok (.aload_n 0, 1) := by decide +kernel
theorem dX2_letWrite_1 : decode cX2_letWrite 1 = .ok (.aload_n 0, 1) := by decide +kernel
theorem dX2_letWrite_2 : decode cX2_letWrite 2 = .ok (.getfield 15, 3) := by decide +kernel
theorem dX2_letWrite_5 : decode cX2_letWrite 5 = .ok (.getfield 28, 3) := by decide +kernel
theorem dX2_letWrite_8 : decode cX2_letWrite 8 = .ok (.invokevirtual 45, 3) := by decide +kernel
theorem dX2_letWrite_11 : decode cX2_letWrite 11 = .ok (.istore_n 3, 1) := by decide +kernel
theorem dX2_letWrite_12 : decode cX2_letWrite 12 = .ok (.aload_n 0, 1) := by decide +kernel
theorem dX2_letWrite_13 : decode cX2_letWrite 13 = .ok (.aload_n 0, 1) := by decide +kernel
theorem dX2_letWrite_14 : decode cX2_letWrite 14 = .ok (.getfield 15, 3) := by decide +kernel
theorem dX2_letWrite_17 : decode cX2_letWrite 17 = .ok (.getfield 20, 3) := by decide +kernel
theorem dX2_letWrite_20 : decode cX2_letWrite 20 = .ok (.invokevirtual 45, 3) := by decide +kernel
theorem dX2_letWrite_23 : decode cX2_letWrite 23 = .ok (.istore 4, 2) := by decide +kernel
theorem dX2_letWrite_25 : decode cX2_letWrite 25 = .ok (.aload_n 0, 1) := by decide +kernel
theorem dX2_letWrite_26 : decode cX2_letWrite 26 = .ok (.bipush 12, 2) := by decide +kernel
theorem dX2_letWrite_28 : decode cX2_letWrite 28 = .ok (.invokevirtual 45, 3) := by decide +kernel
theorem dX2_letWrite_31 : decode cX2_letWrite 31 = .ok (.istore 5, 2) := by decide +kernel
theorem dX2_letWrite_33 : decode cX2_letWrite 33 = .ok (.iconst 0, 1) := by decide +kernel
theorem dX2_letWrite_34 : decode cX2_letWrite 34 = .ok (.istore 6, 2) := by decide +kernel
theorem dX2_letWrite_36 : decode cX2_letWrite 36 = .ok (.iload 6, 2) := by decide +kernel
theorem dX2_letWrite_38 : decode cX2_letWrite 38 = .ok (.aload_n 0, 1) := by decide +kernel
theorem dX2_letWrite_39 : decode cX2_letWrite 39 = .ok (.getfield 15, 3) := by decide +kernel
theorem dX2_letWrite_42 : decode cX2_letWrite 42 = .ok (.getfield 49, 3) := by decide +kernel
theorem dX2_letWrite_45 : decode cX2_letWrite 45 = .ok (.iload_n 3, 1) := by decide +kernel
theorem dX2_letWrite_46 : decode cX2_letWrite 46 = .ok (.iaload, 1) := by decide +kernel
theorem dX2_letWrite_47 : decode cX2_letWrite 47 = .ok (.if_icmp .ge 63, 3) := by decide +kernel
theorem dX2_letWrite_50 : decode cX2_letWrite 50 = .ok (.aload_n 0, 1) := by decide +kernel
theorem dX2_letWrite_51 : decode cX2_letWrite 51 = .ok (.getfield 15, 3) := by decide +kernel
theorem dX2_letWrite_54 : decode cX2_letWrite 54 = .ok (.iload 4, 2) := by decide +kernel
theorem dX2_letWrite_56 : decode cX2_letWrite 56 = .ok (.iload 5, 2) := by decide +kernel
theorem dX2_letWrite_58 : decode cX2_letWrite 58 = .ok (.iload 6, 2) := by decide +kernel
theorem dX2_letWrite_60 : decode cX2_letWrite 60 = .ok (.iadd, 1) := by decide +kernel
theorem dX2_letWrite_61 : decode cX2_letWrite 61 = .ok (.invokevirtual 53, 3) := by decide +kernel
theorem dX2_letWrite_64 : decode cX2_letWrite 64 = .ok (.ifCond .eq 40, 3) := by decide +kernel
theorem dX2_letWrite_67 : decode cX2_letWrite 67 = .ok (.aload_n 1, 1) := by decide +kernel
theorem dX2_letWrite_68 : decode cX2_letWrite 68 = .ok (.iload_n 2, 1) := by decide +kernel
theorem dX2_letWrite_69 : decode cX2_letWrite 69 = .ok (.iload 4, 2) := by decide +kernel
theorem dX2_letWrite_71 : decode cX2_letWrite 71 = .ok (.iload 5, 2) := by decide +kernel
theorem dX2_letWrite_73 : decode cX2_letWrite 73 = .ok (.iload 6, 2) := by decide +kernel
theorem dX2_letWrite_75 : decode cX2_letWrite 75 = .ok (.iadd, 1) := by decide +kernel
theorem dX2_letWrite_76 : decode cX2_letWrite 76 = .ok (.invokevirtual 57, 3) := by decide +kernel
theorem dX2_letWrite_79 : decode cX2_letWrite 79 = .ok (.ifCond .ne 25, 3) := by decide +kernel
theorem dX2_letWrite_82 : decode cX2_letWrite 82 = .ok (.aload_n 1, 1) := by decide +kernel
theorem dX2_letWrite_83 : decode cX2_letWrite 83 = .ok (.iload_n 2, 1) := by decide +kernel
theorem dX2_letWrite_84 : decode cX2_letWrite 84 = .ok (.iload 4, 2) := by decide +kernel
theorem dX2_letWrite_86 : decode cX2_letWrite 86 = .ok (.iload 5, 2) := by decide +kernel
theorem dX2_letWrite_88 : decode cX2_letWrite 88 = .ok (.iload 6, 2) := by decide +kernel
theorem dX2_letWrite_90 : decode cX2_letWrite 90 = .ok (.iadd, 1) := by decide +kernel
theorem dX2_letWrite_91 : decode cX2_letWrite 91 = .ok (.aload_n 0, 1) := by decide +kernel
theorem dX2_letWrite_92 : decode cX2_letWrite 92 = .ok (.getfield 15, 3) := by decide +kernel
theorem dX2_letWrite_95 : decode cX2_letWrite 95 = .ok (.iload_n 3, 1) := by decide +kernel
theorem dX2_letWrite_96 : decode cX2_letWrite 96 = .ok (.iload 6, 2) := by decide +kernel
theorem dX2_letWrite_98 : decode cX2_letWrite 98 = .ok (.invokevirtual 61, 3) := by decide +kernel
theorem dX2_letWrite_101 : decode cX2_letWrite 101 = .ok (.invokevirtual 65, 3) := by decide +kernel
theorem dX2_letWrite_104 : decode cX2_letWrite 104 = .ok (.iinc 6 1, 3) := by decide +kernel
theorem dX2_letWrite_107 : decode cX2_letWrite 107 = .ok (.goto (-71), 3) := by decide +kernel
theorem dX2_letWrite_110 : decode cX2_letWrite 110 = .ok (.return_, 1) := by decide +kernel
def fX2_letWrite_L36 (N : Nat) (v0 : Nat) (v1 : Nat) (v2 : Int32) (v3 : Int32) (v4 : Int32) (v5 : Int32) : Nat → Int32 → Mem → Option (Mem)
  | 0, _, _ => none
  | n + 1, v6, M => ((fR M 2 v0 0).bind fun x39 => ((fR M 8 x39 12).bind fun x42 => ((aI M x42 v3).bind fun x46 => (if x46 ≤ v6 then some M else ((fR M 2 v0 0).bind fun x51 => (if mK M x51 = 9 then ((fX8_hasPlace N x51 v4 (v5 + v6) M).bind fun (x61, M61) => (if x61 = 0 then fX2_letWrite_L36 N v0 v1 v2 v3 v4 v5 n (v6 + 1) M61 else (if mK M61 v1 = 1 then ((fX0_whyNotWrite N v1 v2 v4 (v5 + v6) M61).bind fun (x76, M76) => (if x76 = 0 then ((fR M76 2 v0 0).bind fun x92 => (if mK M76 x92 = 9 then ((fX8_lawSign N x92 v3 v6 M76).bind fun (x98, M98) => (if mK M98 v1 = 1 then ((fX0_putSign N v1 v2 v4 (v5 + v6) x98 M98).bind fun (u101, M101) => fX2_letWrite_L36 N v0 v1 v2 v3 v4 v5 n (v6 + 1) M101) else none)) else none)) else fX2_letWrite_L36 N v0 v1 v2 v3 v4 v5 n (v6 + 1) M76)) else none))) else none))))))
def fX2_letWrite (N : Nat) (v0 : Nat) (v1 : Nat) (v2 : Int32) (M : Mem) : Option (Unit × Mem) := ((fR M 2 v0 0).bind fun x2 => ((fI M 8 x2 9).bind fun x5 => (if mK M v0 = 3 then ((fX2_drawOf N v0 x5 M).bind fun (x8, M8) => ((fR M8 2 v0 0).bind fun x14 => ((fI M8 8 x14 0).bind fun x17 => (if mK M8 v0 = 3 then ((fX2_drawOf N v0 x17 M8).bind fun (x20, M20) => (if mK M20 v0 = 3 then ((fX2_drawOf N v0 12 M20).bind fun (x28, M28) => ((fX2_letWrite_L36 N v0 v1 v2 x8 x20 x28 N 0 M28).bind fun o36 => some ((), o36))) else none)) else none)))) else none)))
set_option maxHeartbeats 4000000 in
set_option maxRecDepth 100000 in
theorem k_X2_letWrite (l : Launch) (b : Nat) (D : va_G) (cy : Nat → ClassId) (N : Nat) (v0 : Nat) (v1 : Nat) (v2 : Int32) (M : Mem) (r : Unit) (Mf : Mem) (h : fX2_letWrite N v0 v1 v2 M = some (r, Mf)) : Ct l yX2_letWrite cX2_letWrite 7 none 3 0 0 b D cy [.ref (b + v0), .ref (b + v1), .int v2] M none Mf := by
  refine Ct_of (own := RX2) (by decide) rfl (Nat.le_of_ble_eq_true rfl) ?_
  intro p e s m args below meth c F hr hl hmn
  unfold fX2_letWrite at h
  show X p l e ({ frames := 3, cells := 0, slots := 0, locals := 100 * 3 }) s m args below meth c (MQ below (Qm b D cy none Mf) args s 0 0 (fun q => b ≤ q)) 7 b D cy 0 0 M 0 [(0, .ref (b + v0)), (1, .ref (b + v1)), (2, .int v2)] []
  refine x_aload_n F dX2_letWrite_0 rfl 0 rfl ?_
  refine x_aload_n F dX2_letWrite_1 rfl 0 rfl ?_
  obtain ⟨x2, c2, h⟩ := bdS h
  refine x_getR F (ci := 2) (C := RX2) (T := TX2) (N := 2) rfl ⟨by decide, rfl⟩ inU2 0 (by decide) (fun _ _ _ => rfl) wl_281 c2 dX2_letWrite_2 ?_
  obtain ⟨x5, c5, h⟩ := bdS h
  refine x_getI F (ci := 8) (C := RX8) (T := TX8) (N := 17) rfl ⟨by decide, rfl⟩ inU8 9 (by decide) (fun _ _ _ => rfl) wl_285 c5 dX2_letWrite_5 ?_
  obtain ⟨k8, h⟩ := gdS h
  obtain ⟨⟨x8, M8⟩, c8, h⟩ := bdS h
  dsimp only at h
  refine x_callV F (As := [.int x5]) (rest := []) (res := (some (.int x8))) (ci := 2) (q := (RX2, TX2, 2)) rfl (by decide) k8 (k_X2_drawOf l b D cy N v0 x5 M _ _ c8) wl_288 wl_289 wl_290 wl_291 wl_283 hd_X2_drawOf ⟨Nat.le_of_ble_eq_true rfl, Nat.le_of_ble_eq_true rfl⟩ ⟨Nat.le_refl _, Nat.le_refl _⟩ (Nat.le_of_ble_eq_true rfl) rfl dX2_letWrite_8 ?_
  refine x_istore_n F (lv' := [(3, .int x8), (0, .ref (b + v0)), (1, .ref (b + v1)), (2, .int v2)]) dX2_letWrite_11 rfl (by decide) rfl ?_
  refine x_aload_n F dX2_letWrite_12 rfl 1 rfl ?_
  refine x_aload_n F dX2_letWrite_13 rfl 1 rfl ?_
  obtain ⟨x14, c14, h⟩ := bdS h
  refine x_getR F (ci := 2) (C := RX2) (T := TX2) (N := 2) rfl ⟨by decide, rfl⟩ inU2 0 (by decide) (fun _ _ _ => rfl) wl_281 c14 dX2_letWrite_14 ?_
  obtain ⟨x17, c17, h⟩ := bdS h
  refine x_getI F (ci := 8) (C := RX8) (T := TX8) (N := 17) rfl ⟨by decide, rfl⟩ inU8 0 (by decide) (fun _ _ _ => rfl) wl_286 c17 dX2_letWrite_17 ?_
  obtain ⟨k20, h⟩ := gdS h
  obtain ⟨⟨x20, M20⟩, c20, h⟩ := bdS h
  dsimp only at h
  refine x_callV F (As := [.int x17]) (rest := []) (res := (some (.int x20))) (ci := 2) (q := (RX2, TX2, 2)) rfl (by decide) k20 (k_X2_drawOf l b D cy N v0 x17 M8 _ _ c20) wl_288 wl_289 wl_290 wl_291 wl_283 hd_X2_drawOf ⟨Nat.le_of_ble_eq_true rfl, Nat.le_of_ble_eq_true rfl⟩ ⟨Nat.le_refl _, Nat.le_refl _⟩ (Nat.le_of_ble_eq_true rfl) rfl dX2_letWrite_20 ?_
  refine x_istore F (lv' := [(4, .int x20), (3, .int x8), (0, .ref (b + v0)), (1, .ref (b + v1)), (2, .int v2)]) dX2_letWrite_23 (by decide) rfl ?_
  refine x_aload_n F dX2_letWrite_25 rfl 2 rfl ?_
  refine x_bipush F (v := 12) dX2_letWrite_26 (by decide) ?_
  obtain ⟨k28, h⟩ := gdS h
  obtain ⟨⟨x28, M28⟩, c28, h⟩ := bdS h
  dsimp only at h
  refine x_callV F (As := [.int 12]) (rest := []) (res := (some (.int x28))) (ci := 2) (q := (RX2, TX2, 2)) rfl (by decide) k28 (k_X2_drawOf l b D cy N v0 12 M20 _ _ c28) wl_288 wl_289 wl_290 wl_291 wl_283 hd_X2_drawOf ⟨Nat.le_of_ble_eq_true rfl, Nat.le_of_ble_eq_true rfl⟩ ⟨Nat.le_refl _, Nat.le_refl _⟩ (Nat.le_of_ble_eq_true rfl) rfl dX2_letWrite_28 ?_
  refine x_istore F (lv' := [(5, .int x28), (4, .int x20), (3, .int x8), (0, .ref (b + v0)), (1, .ref (b + v1)), (2, .int v2)]) dX2_letWrite_31 (by decide) rfl ?_
  refine x_iconst F (v := 0) dX2_letWrite_33 (by decide) ?_
  refine x_istore F (lv' := [(6, .int 0), (5, .int x28), (4, .int x20), (3, .int x8), (0, .ref (b + v0)), (1, .ref (b + v1)), (2, .int v2)]) dX2_letWrite_34 (by decide) rfl ?_
  have L36 : ∀ (v0 : Nat) (v1 : Nat) (v2 : Int32) (v3 : Int32) (v4 : Int32) (v5 : Int32) (n : Nat) (v6 : Int32) (M : Mem) (o : Mem), fX2_letWrite_L36 N v0 v1 v2 v3 v4 v5 n v6 M = some o → X p l e ({ frames := 3, cells := 0, slots := 0, locals := 100 * 3 }) s m args below meth c (MQ below (Qm b D cy none Mf) args s 0 0 (fun q => b ≤ q)) 7 b D cy 0 0 o 110 [] [] → X p l e ({ frames := 3, cells := 0, slots := 0, locals := 100 * 3 }) s m args below meth c (MQ below (Qm b D cy none Mf) args s 0 0 (fun q => b ≤ q)) 7 b D cy 0 0 M 36 [(0, .ref (b + v0)), (1, .ref (b + v1)), (2, .int v2), (3, .int v3), (4, .int v4), (5, .int v5), (6, .int v6)] [] := by
    intro v0 v1 v2 v3 v4 v5 n
    induction n with
    | zero => intro v6 M o h; exact absurd h (by rw [fX2_letWrite_L36]; exact fun z => by cases z)
    | succ n ih =>
      intro v6 M o h hE
      rw [fX2_letWrite_L36] at h
      refine x_iload F dX2_letWrite_36 6 rfl ?_
      refine x_aload_n F dX2_letWrite_38 rfl 0 rfl ?_
      obtain ⟨x39, c39, h⟩ := bdS h
      refine x_getR F (ci := 2) (C := RX2) (T := TX2) (N := 2) rfl ⟨by decide, rfl⟩ inU2 0 (by decide) (fun _ _ _ => rfl) wl_281 c39 dX2_letWrite_39 ?_
      obtain ⟨x42, c42, h⟩ := bdS h
      refine x_getR F (ci := 8) (C := RX8) (T := TX8) (N := 17) rfl ⟨by decide, rfl⟩ inU8 12 (by decide) (fun _ _ _ => rfl) wl_287 c42 dX2_letWrite_42 ?_
      refine x_iload_n F dX2_letWrite_45 rfl 3 rfl ?_
      obtain ⟨x46, c46, h⟩ := bdS h
      refine x_aI F c46 dX2_letWrite_46 ?_
      refine x_icmp_ge F (tgt := 110) dX2_letWrite_47 (by decide) (fun c47 => ?_) (fun c47 => ?_)
      · rw [if_pos c47] at h
        obtain rfl := Option.some.inj h
        refine x_sub [] rfl ?_
        exact hE
      · rw [if_neg c47] at h
        refine x_aload_n F dX2_letWrite_50 rfl 0 rfl ?_
        obtain ⟨x51, c51, h⟩ := bdS h
        refine x_getR F (ci := 2) (C := RX2) (T := TX2) (N := 2) rfl ⟨by decide, rfl⟩ inU2 0 (by decide) (fun _ _ _ => rfl) wl_281 c51 dX2_letWrite_51 ?_
        refine x_iload F dX2_letWrite_54 4 rfl ?_
        refine x_iload F dX2_letWrite_56 5 rfl ?_
        refine x_iload F dX2_letWrite_58 6 rfl ?_
        refine x_iadd F dX2_letWrite_60 ?_
        obtain ⟨k61, h⟩ := gdS h
        obtain ⟨⟨x61, M61⟩, c61, h⟩ := bdS h
        dsimp only at h
        refine x_callV F (As := [.int v4, .int (v5 + v6)]) (rest := []) (res := (some (.int x61))) (ci := 8) (q := (RX8, TX8, 17)) rfl (by decide) k61 (k_X8_hasPlace l b D cy N x51 v4 (v5 + v6) M _ _ c61) wl_292 wl_245 wl_246 wl_75 wl_239 hd_X8_hasPlace ⟨Nat.le_of_ble_eq_true rfl, Nat.le_of_ble_eq_true rfl⟩ ⟨Nat.le_refl _, Nat.le_refl _⟩ (Nat.le_of_ble_eq_true rfl) rfl dX2_letWrite_61 ?_
        refine x_if_eq F (tgt := 104) dX2_letWrite_64 (by decide) (fun c64 => ?_) (fun c64 => ?_)
        · rw [if_pos c64] at h
          refine x_iinc F (v := v6 + 1) (lv' := [(6, .int (v6 + 1)), (0, .ref (b + v0)), (1, .ref (b + v1)), (2, .int v2), (3, .int v3), (4, .int v4), (5, .int v5)]) dX2_letWrite_104 6 rfl rfl (by decide) rfl ?_
          refine x_goto F (tgt := 36) dX2_letWrite_107 (by decide) ?_
          refine x_sub [1, 2, 3, 4, 5, 6, 0] rfl ?_
          exact ih (v6 + 1) M61 o h hE
        · rw [if_neg c64] at h
          refine x_aload_n F dX2_letWrite_67 rfl 1 rfl ?_
          refine x_iload_n F dX2_letWrite_68 rfl 2 rfl ?_
          refine x_iload F dX2_letWrite_69 4 rfl ?_
          refine x_iload F dX2_letWrite_71 5 rfl ?_
          refine x_iload F dX2_letWrite_73 6 rfl ?_
          refine x_iadd F dX2_letWrite_75 ?_
          obtain ⟨k76, h⟩ := gdS h
          obtain ⟨⟨x76, M76⟩, c76, h⟩ := bdS h
          dsimp only at h
          refine x_callV F (As := [.int v2, .int v4, .int (v5 + v6)]) (rest := []) (res := (some (.int x76))) (ci := 0) (q := (RX0, TX0, 12)) rfl (by decide) k76 (k_X0_whyNotWrite l b D cy N v1 v2 v4 (v5 + v6) M61 _ _ c76) wl_293 wl_248 wl_249 wl_52 wl_28 hd_X0_whyNotWrite ⟨Nat.le_of_ble_eq_true rfl, Nat.le_of_ble_eq_true rfl⟩ ⟨Nat.le_refl _, Nat.le_refl _⟩ (Nat.le_of_ble_eq_true rfl) rfl dX2_letWrite_76 ?_
          refine x_if_ne F (tgt := 104) dX2_letWrite_79 (by decide) (fun c79 => ?_) (fun c79 => ?_)
          · rw [if_neg c79] at h
            refine x_iinc F (v := v6 + 1) (lv' := [(6, .int (v6 + 1)), (0, .ref (b + v0)), (1, .ref (b + v1)), (2, .int v2), (3, .int v3), (4, .int v4), (5, .int v5)]) dX2_letWrite_104 6 rfl rfl (by decide) rfl ?_
            refine x_goto F (tgt := 36) dX2_letWrite_107 (by decide) ?_
            refine x_sub [1, 2, 3, 4, 5, 6, 0] rfl ?_
            exact ih (v6 + 1) M76 o h hE
          · rw [if_pos c79] at h
            refine x_aload_n F dX2_letWrite_82 rfl 1 rfl ?_
            refine x_iload_n F dX2_letWrite_83 rfl 2 rfl ?_
            refine x_iload F dX2_letWrite_84 4 rfl ?_
            refine x_iload F dX2_letWrite_86 5 rfl ?_
            refine x_iload F dX2_letWrite_88 6 rfl ?_
            refine x_iadd F dX2_letWrite_90 ?_
            refine x_aload_n F dX2_letWrite_91 rfl 0 rfl ?_
            obtain ⟨x92, c92, h⟩ := bdS h
            refine x_getR F (ci := 2) (C := RX2) (T := TX2) (N := 2) rfl ⟨by decide, rfl⟩ inU2 0 (by decide) (fun _ _ _ => rfl) wl_281 c92 dX2_letWrite_92 ?_
            refine x_iload_n F dX2_letWrite_95 rfl 3 rfl ?_
            refine x_iload F dX2_letWrite_96 6 rfl ?_
            obtain ⟨k98, h⟩ := gdS h
            obtain ⟨⟨x98, M98⟩, c98, h⟩ := bdS h
            dsimp only at h
            refine x_callV F (As := [.int v3, .int v6]) (rest := [.int (v5 + v6), .int v4, .int v2, .ref (b + v1)]) (res := (some (.int x98))) (ci := 8) (q := (RX8, TX8, 17)) rfl (by decide) k98 (k_X8_lawSign l b D cy N x92 v3 v6 M76 _ _ c98) wl_294 wl_103 wl_104 wl_75 wl_98 hd_X8_lawSign ⟨Nat.le_of_ble_eq_true rfl, Nat.le_of_ble_eq_true rfl⟩ ⟨Nat.le_refl _, Nat.le_refl _⟩ (Nat.le_of_ble_eq_true rfl) rfl dX2_letWrite_98 ?_
            obtain ⟨k101, h⟩ := gdS h
            obtain ⟨⟨u101, M101⟩, c101, h⟩ := bdS h
            dsimp only at h
            refine x_callV F (As := [.int v2, .int v4, .int (v5 + v6), .int x98]) (rest := []) (res := none) (ci := 0) (q := (RX0, TX0, 12)) rfl (by decide) k101 (k_X0_putSign l b D cy N v1 v2 v4 (v5 + v6) x98 M98 _ _ c101) wl_295 wl_251 wl_252 wl_52 wl_32 hd_X0_putSign ⟨Nat.le_of_ble_eq_true rfl, Nat.le_of_ble_eq_true rfl⟩ ⟨Nat.le_refl _, Nat.le_refl _⟩ (Nat.le_of_ble_eq_true rfl) rfl dX2_letWrite_101 ?_
            refine x_iinc F (v := v6 + 1) (lv' := [(6, .int (v6 + 1)), (0, .ref (b + v0)), (1, .ref (b + v1)), (2, .int v2), (3, .int v3), (4, .int v4), (5, .int v5)]) dX2_letWrite_104 6 rfl rfl (by decide) rfl ?_
            refine x_goto F (tgt := 36) dX2_letWrite_107 (by decide) ?_
            refine x_sub [1, 2, 3, 4, 5, 6, 0] rfl ?_
            exact ih (v6 + 1) M101 o h hE
  obtain ⟨o36, h36, h⟩ := bdS h
  refine x_sub [4, 5, 6, 3, 2, 1, 0] rfl ?_
  refine L36 v0 v1 v2 x8 x20 x28 N 0 M28 o36 h36 ?_
  obtain ⟨rfl, rfl⟩ := retS h
  exact x_vret F hr hl dX2_letWrite_110
theorem hd_X2_letTread : (yX2_letTread).cls = RX2 ∧ (yX2_letTread).cls ≠ "java/lang/invoke/MethodHandle" ∧ (yX2_letTread).cls ≠ "java/lang/invoke/VarHandle" ∧ (parseMethodDescriptor (yX2_letTread).desc).map (fun d => d.parameters.length) = some 1 := by decide +kernel
theorem hd_X2_letWrite : (yX2_letWrite).cls = RX2 ∧ (yX2_letWrite).cls ≠ "java/lang/invoke/MethodHandle" ∧ (yX2_letWrite).cls ≠ "java/lang/invoke/VarHandle" ∧ (parseMethodDescriptor (yX2_letWrite).desc).map (fun d => d.parameters.length) = some 2 := by decide +kernel
theorem dX2_passHourIn_0 : decode cX2_passHourIn 0 = .ok (.aload_n 0, 1) := by decide +kernel
theorem dX2_passHourIn_1 : decode cX2_passHourIn 1 = .ok (.getfield 15, 3) := by decide +kernel
theorem dX2_passHourIn_4 : decode cX2_passHourIn 4 = .ok (.getfield 20, 3) := by decide +kernel
theorem dX2_passHourIn_7 : decode cX2_passHourIn 7 = .ok (.ifCond .le 43, 3) := by decide +kernel
theorem dX2_passHourIn_10 : decode cX2_passHourIn 10 = .ok (.iconst 0, 1) := by decide +kernel
theorem dX2_passHourIn_11 : decode cX2_passHourIn 11 = .ok (.istore_n 2, 1) := by decide +kernel
theorem dX2_passHourIn_12 : decode cX2_passHourIn 12 = .ok (.iload_n 2, 1) := by decide +kernel
theorem dX2_passHourIn_13 : decode cX2_passHourIn 13 = .ok (.aload_n 0, 1) := by decide +kernel
theorem dX2_passHourIn_14 : decode cX2_passHourIn 14 = .ok (.getfield 15, 3) := by decide +kernel
theorem dX2_passHourIn_17 : decode cX2_passHourIn 17 = .ok (.getfield 25, 3) := by decide +kernel
theorem dX2_passHourIn_20 : decode cX2_passHourIn 20 = .ok (.if_icmp .ge 25, 3) := by decide +kernel
theorem dX2_passHourIn_23 : decode cX2_passHourIn 23 = .ok (.aload_n 0, 1) := by decide +kernel
theorem dX2_passHourIn_24 : decode cX2_passHourIn 24 = .ok (.getfield 15, 3) := by decide +kernel
theorem dX2_passHourIn_27 : decode cX2_passHourIn 27 = .ok (.getfield 28, 3) := by decide +kernel
theorem dX2_passHourIn_30 : decode cX2_passHourIn 30 = .ok (.ifCond .le 15, 3) := by decide +kernel
theorem dX2_passHourIn_33 : decode cX2_passHourIn 33 = .ok (.aload_n 0, 1) := by decide +kernel
theorem dX2_passHourIn_34 : decode cX2_passHourIn 34 = .ok (.aload_n 1, 1) := by decide +kernel
theorem dX2_passHourIn_35 : decode cX2_passHourIn 35 = .ok (.iload_n 2, 1) := by decide +kernel
theorem dX2_passHourIn_36 : decode cX2_passHourIn 36 = .ok (.invokevirtual 31, 3) := by decide +kernel
theorem dX2_passHourIn_39 : decode cX2_passHourIn 39 = .ok (.iinc 2 1, 3) := by decide +kernel
theorem dX2_passHourIn_42 : decode cX2_passHourIn 42 = .ok (.goto (-30), 3) := by decide +kernel
theorem dX2_passHourIn_45 : decode cX2_passHourIn 45 = .ok (.aload_n 0, 1) := by decide +kernel
theorem dX2_passHourIn_46 : decode cX2_passHourIn 46 = .ok (.aload_n 1, 1) := by decide +kernel
theorem dX2_passHourIn_47 : decode cX2_passHourIn 47 = .ok (.invokevirtual 35, 3) := by decide +kernel
theorem dX2_passHourIn_50 : decode cX2_passHourIn 50 = .ok (.aload_n 1, 1) := by decide +kernel
theorem dX2_passHourIn_51 : decode cX2_passHourIn 51 = .ok (.iconst 1, 1) := by decide +kernel
theorem dX2_passHourIn_52 : decode cX2_passHourIn 52 = .ok (.invokevirtual 39, 3) := by decide +kernel
theorem dX2_passHourIn_55 : decode cX2_passHourIn 55 = .ok (.return_, 1) := by decide +kernel
def fX2_passHourIn_J45 (N : Nat) (v0 : Nat) (v1 : Nat) (M : Mem) : Option (Unit × Mem) := (if mK M v0 = 3 then ((fX2_letTread N v0 v1 M).bind fun (u47, M47) => (if mK M47 v1 = 1 then ((fX0_passHours N v1 1 M47).bind fun (u52, M52) => some ((), M52)) else none)) else none)
def fX2_passHourIn_L12 (N : Nat) (v0 : Nat) (v1 : Nat) : Nat → Int32 → Mem → Option (Mem)
  | 0, _, _ => none
  | n + 1, v2, M => ((fR M 2 v0 0).bind fun x14 => ((fI M 8 x14 6).bind fun x17 => (if x17 ≤ v2 then some M else ((fR M 2 v0 0).bind fun x24 => ((fI M 8 x24 9).bind fun x27 => (if x27 ≤ 0 then some M else (if mK M v0 = 3 then ((fX2_letWrite N v0 v1 v2 M).bind fun (u36, M36) => fX2_passHourIn_L12 N v0 v1 n (v2 + 1) M36) else none)))))))
def fX2_passHourIn (N : Nat) (v0 : Nat) (v1 : Nat) (M : Mem) : Option (Unit × Mem) := ((fR M 2 v0 0).bind fun x1 => ((fI M 8 x1 0).bind fun x4 => (if x4 ≤ 0 then (if mK M v1 = 1 then ((fX0_passHours N v1 1 M).bind fun (u52, M52) => some ((), M52)) else none) else ((fX2_passHourIn_L12 N v0 v1 N 0 M).bind fun o12 => fX2_passHourIn_J45 N v0 v1 o12))))
set_option maxHeartbeats 4000000 in
set_option maxRecDepth 100000 in
theorem k_X2_passHourIn (l : Launch) (b : Nat) (D : va_G) (cy : Nat → ClassId) (N : Nat) (v0 : Nat) (v1 : Nat) (M : Mem) (r : Unit) (Mf : Mem) (h : fX2_passHourIn N v0 v1 M = some (r, Mf)) : Ct l yX2_passHourIn cX2_passHourIn 3 none 6 0 0 b D cy [.ref (b + v0), .ref (b + v1)] M none Mf := by
  refine Ct_of (own := RX2) (by decide) rfl (Nat.le_of_ble_eq_true rfl) ?_
  intro p e s m args below meth c F hr hl hmn
  unfold fX2_passHourIn at h
  have J45 : ∀ (v0 : Nat) (v1 : Nat) (M : Mem), fX2_passHourIn_J45 N v0 v1 M = some (r, Mf) → X p l e ({ frames := 6, cells := 0, slots := 0, locals := 100 * 6 }) s m args below meth c (MQ below (Qm b D cy none Mf) args s 0 0 (fun q => b ≤ q)) 3 b D cy 0 0 M 45 [(0, .ref (b + v0)), (1, .ref (b + v1))] [] := by
    intro v0 v1 M h
    unfold fX2_passHourIn_J45 at h
    refine x_aload_n F dX2_passHourIn_45 rfl 0 rfl ?_
    refine x_aload_n F dX2_passHourIn_46 rfl 1 rfl ?_
    obtain ⟨k47, h⟩ := gdS h
    obtain ⟨⟨u47, M47⟩, c47, h⟩ := bdS h
    dsimp only at h
    refine x_callV F (As := [.ref (b + v1)]) (rest := []) (res := none) (ci := 2) (q := (RX2, TX2, 2)) rfl (by decide) k47 (k_X2_letTread l b D cy N v0 v1 M _ _ c47) wl_304 wl_305 wl_306 wl_291 wl_299 hd_X2_letTread ⟨Nat.le_of_ble_eq_true rfl, Nat.le_of_ble_eq_true rfl⟩ ⟨Nat.le_refl _, Nat.le_refl _⟩ (Nat.le_of_ble_eq_true rfl) rfl dX2_passHourIn_47 ?_
    refine x_aload_n F dX2_passHourIn_50 rfl 1 rfl ?_
    refine x_iconst F (v := 1) dX2_passHourIn_51 (by decide) ?_
    obtain ⟨k52, h⟩ := gdS h
    obtain ⟨⟨u52, M52⟩, c52, h⟩ := bdS h
    dsimp only at h
    refine x_callV F (As := [.int 1]) (rest := []) (res := none) (ci := 0) (q := (RX0, TX0, 12)) rfl (by decide) k52 (k_X0_passHours l b D cy N v1 1 M47 _ _ c52) wl_307 wl_269 wl_270 wl_52 wl_85 hd_X0_passHours ⟨Nat.le_of_ble_eq_true rfl, Nat.le_of_ble_eq_true rfl⟩ ⟨Nat.le_refl _, Nat.le_refl _⟩ (Nat.le_of_ble_eq_true rfl) rfl dX2_passHourIn_52 ?_
    obtain ⟨rfl, rfl⟩ := retS h
    exact x_vret F hr hl dX2_passHourIn_55
  show X p l e ({ frames := 6, cells := 0, slots := 0, locals := 100 * 6 }) s m args below meth c (MQ below (Qm b D cy none Mf) args s 0 0 (fun q => b ≤ q)) 3 b D cy 0 0 M 0 [(0, .ref (b + v0)), (1, .ref (b + v1))] []
  refine x_aload_n F dX2_passHourIn_0 rfl 0 rfl ?_
  obtain ⟨x1, c1, h⟩ := bdS h
  refine x_getR F (ci := 2) (C := RX2) (T := TX2) (N := 2) rfl ⟨by decide, rfl⟩ inU2 0 (by decide) (fun _ _ _ => rfl) wl_281 c1 dX2_passHourIn_1 ?_
  obtain ⟨x4, c4, h⟩ := bdS h
  refine x_getI F (ci := 8) (C := RX8) (T := TX8) (N := 17) rfl ⟨by decide, rfl⟩ inU8 0 (by decide) (fun _ _ _ => rfl) wl_286 c4 dX2_passHourIn_4 ?_
  refine x_if_le F (tgt := 50) dX2_passHourIn_7 (by decide) (fun c7 => ?_) (fun c7 => ?_)
  · rw [if_pos c7] at h
    refine x_aload_n F dX2_passHourIn_50 rfl 1 rfl ?_
    refine x_iconst F (v := 1) dX2_passHourIn_51 (by decide) ?_
    obtain ⟨k52, h⟩ := gdS h
    obtain ⟨⟨u52, M52⟩, c52, h⟩ := bdS h
    dsimp only at h
    refine x_callV F (As := [.int 1]) (rest := []) (res := none) (ci := 0) (q := (RX0, TX0, 12)) rfl (by decide) k52 (k_X0_passHours l b D cy N v1 1 M _ _ c52) wl_307 wl_269 wl_270 wl_52 wl_85 hd_X0_passHours ⟨Nat.le_of_ble_eq_true rfl, Nat.le_of_ble_eq_true rfl⟩ ⟨Nat.le_refl _, Nat.le_refl _⟩ (Nat.le_of_ble_eq_true rfl) rfl dX2_passHourIn_52 ?_
    obtain ⟨rfl, rfl⟩ := retS h
    exact x_vret F hr hl dX2_passHourIn_55
  · rw [if_neg c7] at h
    refine x_iconst F (v := 0) dX2_passHourIn_10 (by decide) ?_
    refine x_istore_n F (lv' := [(2, .int 0), (0, .ref (b + v0)), (1, .ref (b + v1))]) dX2_passHourIn_11 rfl (by decide) rfl ?_
    have L12 : ∀ (v0 : Nat) (v1 : Nat) (n : Nat) (v2 : Int32) (M : Mem) (o : Mem), fX2_passHourIn_L12 N v0 v1 n v2 M = some o → X p l e ({ frames := 6, cells := 0, slots := 0, locals := 100 * 6 }) s m args below meth c (MQ below (Qm b D cy none Mf) args s 0 0 (fun q => b ≤ q)) 3 b D cy 0 0 o 45 [(0, .ref (b + v0)), (1, .ref (b + v1))] [] → X p l e ({ frames := 6, cells := 0, slots := 0, locals := 100 * 6 }) s m args below meth c (MQ below (Qm b D cy none Mf) args s 0 0 (fun q => b ≤ q)) 3 b D cy 0 0 M 12 [(0, .ref (b + v0)), (1, .ref (b + v1)), (2, .int v2)] [] := by
      intro v0 v1 n
      induction n with
      | zero => intro v2 M o h; exact absurd h (by rw [fX2_passHourIn_L12]; exact fun z => by cases z)
      | succ n ih =>
        intro v2 M o h hE
        rw [fX2_passHourIn_L12] at h
        refine x_iload_n F dX2_passHourIn_12 rfl 2 rfl ?_
        refine x_aload_n F dX2_passHourIn_13 rfl 0 rfl ?_
        obtain ⟨x14, c14, h⟩ := bdS h
        refine x_getR F (ci := 2) (C := RX2) (T := TX2) (N := 2) rfl ⟨by decide, rfl⟩ inU2 0 (by decide) (fun _ _ _ => rfl) wl_281 c14 dX2_passHourIn_14 ?_
        obtain ⟨x17, c17, h⟩ := bdS h
        refine x_getI F (ci := 8) (C := RX8) (T := TX8) (N := 17) rfl ⟨by decide, rfl⟩ inU8 6 (by decide) (fun _ _ _ => rfl) wl_300 c17 dX2_passHourIn_17 ?_
        refine x_icmp_ge F (tgt := 45) dX2_passHourIn_20 (by decide) (fun c20 => ?_) (fun c20 => ?_)
        · rw [if_pos c20] at h
          obtain rfl := Option.some.inj h
          refine x_sub [0, 1] rfl ?_
          exact hE
        · rw [if_neg c20] at h
          refine x_aload_n F dX2_passHourIn_23 rfl 0 rfl ?_
          obtain ⟨x24, c24, h⟩ := bdS h
          refine x_getR F (ci := 2) (C := RX2) (T := TX2) (N := 2) rfl ⟨by decide, rfl⟩ inU2 0 (by decide) (fun _ _ _ => rfl) wl_281 c24 dX2_passHourIn_24 ?_
          obtain ⟨x27, c27, h⟩ := bdS h
          refine x_getI F (ci := 8) (C := RX8) (T := TX8) (N := 17) rfl ⟨by decide, rfl⟩ inU8 9 (by decide) (fun _ _ _ => rfl) wl_285 c27 dX2_passHourIn_27 ?_
          refine x_if_le F (tgt := 45) dX2_passHourIn_30 (by decide) (fun c30 => ?_) (fun c30 => ?_)
          · rw [if_pos c30] at h
            obtain rfl := Option.some.inj h
            refine x_sub [0, 1] rfl ?_
            exact hE
          · rw [if_neg c30] at h
            refine x_aload_n F dX2_passHourIn_33 rfl 0 rfl ?_
            refine x_aload_n F dX2_passHourIn_34 rfl 1 rfl ?_
            refine x_iload_n F dX2_passHourIn_35 rfl 2 rfl ?_
            obtain ⟨k36, h⟩ := gdS h
            obtain ⟨⟨u36, M36⟩, c36, h⟩ := bdS h
            dsimp only at h
            refine x_callV F (As := [.ref (b + v1), .int v2]) (rest := []) (res := none) (ci := 2) (q := (RX2, TX2, 2)) rfl (by decide) k36 (k_X2_letWrite l b D cy N v0 v1 v2 M _ _ c36) wl_301 wl_302 wl_303 wl_291 wl_296 hd_X2_letWrite ⟨Nat.le_of_ble_eq_true rfl, Nat.le_of_ble_eq_true rfl⟩ ⟨Nat.le_refl _, Nat.le_refl _⟩ (Nat.le_of_ble_eq_true rfl) rfl dX2_passHourIn_36 ?_
            refine x_iinc F (v := v2 + 1) (lv' := [(2, .int (v2 + 1)), (0, .ref (b + v0)), (1, .ref (b + v1))]) dX2_passHourIn_39 2 rfl rfl (by decide) rfl ?_
            refine x_goto F (tgt := 12) dX2_passHourIn_42 (by decide) ?_
            refine x_sub [1, 2, 0] rfl ?_
            exact ih (v2 + 1) M36 o h hE
    obtain ⟨o12, h12, h⟩ := bdS h
    refine x_sub [1, 2, 0] rfl ?_
    refine L12 v0 v1 N 0 M o12 h12 ?_
    exact J45 v0 v1 o12 h
