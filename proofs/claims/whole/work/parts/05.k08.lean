theorem dX11_snap_0 : decode cX11_snap 0 = .ok (.aload_n 0, 1) := by decide +kernel
theorem dX11_snap_1 : decode cX11_snap 1 = .ok (.getfield 213, 3) := by decide +kernel
theorem dX11_snap_4 : decode cX11_snap 4 = .ok (.bipush 8, 2) := by decide +kernel
theorem dX11_snap_6 : decode cX11_snap 6 = .ok (.if_icmp .ne 44, 3) := by decide +kernel
theorem dX11_snap_9 : decode cX11_snap 9 = .ok (.iconst 0, 1) := by decide +kernel
theorem dX11_snap_10 : decode cX11_snap 10 = .ok (.istore_n 1, 1) := by decide +kernel
theorem dX11_snap_11 : decode cX11_snap 11 = .ok (.iload_n 1, 1) := by decide +kernel
theorem dX11_snap_12 : decode cX11_snap 12 = .ok (.sipush 1148, 3) := by decide +kernel
theorem dX11_snap_15 : decode cX11_snap 15 = .ok (.if_icmp .ge 25, 3) := by decide +kernel
theorem dX11_snap_18 : decode cX11_snap 18 = .ok (.aload_n 0, 1) := by decide +kernel
theorem dX11_snap_19 : decode cX11_snap 19 = .ok (.getfield 107, 3) := by decide +kernel
theorem dX11_snap_22 : decode cX11_snap 22 = .ok (.iload_n 1, 1) := by decide +kernel
theorem dX11_snap_23 : decode cX11_snap 23 = .ok (.aload_n 0, 1) := by decide +kernel
theorem dX11_snap_24 : decode cX11_snap 24 = .ok (.getfield 107, 3) := by decide +kernel
theorem dX11_snap_27 : decode cX11_snap 27 = .ok (.iload_n 1, 1) := by decide +kernel
theorem dX11_snap_28 : decode cX11_snap 28 = .ok (.sipush 164, 3) := by decide +kernel
theorem dX11_snap_31 : decode cX11_snap 31 = .ok (.iadd, 1) := by decide +kernel
theorem dX11_snap_32 : decode cX11_snap 32 = .ok (.iaload, 1) := by decide +kernel
theorem dX11_snap_33 : decode cX11_snap 33 = .ok (.iastore, 1) := by decide +kernel
theorem dX11_snap_34 : decode cX11_snap 34 = .ok (.iinc 1 1, 3) := by decide +kernel
theorem dX11_snap_37 : decode cX11_snap 37 = .ok (.goto (-26), 3) := by decide +kernel
theorem dX11_snap_40 : decode cX11_snap 40 = .ok (.aload_n 0, 1) := by decide +kernel
theorem dX11_snap_41 : decode cX11_snap 41 = .ok (.dup, 1) := by decide +kernel
theorem dX11_snap_42 : decode cX11_snap 42 = .ok (.getfield 213, 3) := by decide +kernel
theorem dX11_snap_45 : decode cX11_snap 45 = .ok (.iconst 1, 1) := by decide +kernel
theorem dX11_snap_46 : decode cX11_snap 46 = .ok (.isub, 1) := by decide +kernel
theorem dX11_snap_47 : decode cX11_snap 47 = .ok (.putfield 213, 3) := by decide +kernel
theorem dX11_snap_50 : decode cX11_snap 50 = .ok (.iconst 0, 1) := by decide +kernel
theorem dX11_snap_51 : decode cX11_snap 51 = .ok (.istore_n 1, 1) := by decide +kernel
theorem dX11_snap_52 : decode cX11_snap 52 = .ok (.iload_n 1, 1) := by decide +kernel
theorem dX11_snap_53 : decode cX11_snap 53 = .ok (.sipush 164, 3) := by decide +kernel
theorem dX11_snap_56 : decode cX11_snap 56 = .ok (.if_icmp .ge 33, 3) := by decide +kernel
theorem dX11_snap_59 : decode cX11_snap 59 = .ok (.aload_n 0, 1) := by decide +kernel
theorem dX11_snap_60 : decode cX11_snap 60 = .ok (.getfield 107, 3) := by decide +kernel
theorem dX11_snap_63 : decode cX11_snap 63 = .ok (.sipush 164, 3) := by decide +kernel
theorem dX11_snap_66 : decode cX11_snap 66 = .ok (.aload_n 0, 1) := by decide +kernel
theorem dX11_snap_67 : decode cX11_snap 67 = .ok (.getfield 213, 3) := by decide +kernel
theorem dX11_snap_70 : decode cX11_snap 70 = .ok (.imul, 1) := by decide +kernel
theorem dX11_snap_71 : decode cX11_snap 71 = .ok (.iload_n 1, 1) := by decide +kernel
theorem dX11_snap_72 : decode cX11_snap 72 = .ok (.iadd, 1) := by decide +kernel
theorem dX11_snap_73 : decode cX11_snap 73 = .ok (.aload_n 0, 1) := by decide +kernel
theorem dX11_snap_74 : decode cX11_snap 74 = .ok (.getfield 98, 3) := by decide +kernel
theorem dX11_snap_77 : decode cX11_snap 77 = .ok (.bipush 35, 2) := by decide +kernel
theorem dX11_snap_79 : decode cX11_snap 79 = .ok (.iload_n 1, 1) := by decide +kernel
theorem dX11_snap_80 : decode cX11_snap 80 = .ok (.iadd, 1) := by decide +kernel
theorem dX11_snap_81 : decode cX11_snap 81 = .ok (.iaload, 1) := by decide +kernel
theorem dX11_snap_82 : decode cX11_snap 82 = .ok (.iastore, 1) := by decide +kernel
theorem dX11_snap_83 : decode cX11_snap 83 = .ok (.iinc 1 1, 3) := by decide +kernel
theorem dX11_snap_86 : decode cX11_snap 86 = .ok (.goto (-34), 3) := by decide +kernel
theorem dX11_snap_89 : decode cX11_snap 89 = .ok (.aload_n 0, 1) := by decide +kernel
theorem dX11_snap_90 : decode cX11_snap 90 = .ok (.dup, 1) := by decide +kernel
theorem dX11_snap_91 : decode cX11_snap 91 = .ok (.getfield 213, 3) := by decide +kernel
theorem dX11_snap_94 : decode cX11_snap 94 = .ok (.iconst 1, 1) := by decide +kernel
theorem dX11_snap_95 : decode cX11_snap 95 = .ok (.iadd, 1) := by decide +kernel
theorem dX11_snap_96 : decode cX11_snap 96 = .ok (.putfield 213, 3) := by decide +kernel
theorem dX11_snap_99 : decode cX11_snap 99 = .ok (.return_, 1) := by decide +kernel
def fX11_snap_L52 (N : Nat) (v0 : Nat) : Nat → Int32 → Mem → Option (Mem)
  | 0, _, _ => none
  | n + 1, v1, M => (if 164 ≤ v1 then some M else ((fR M 11 v0 17).bind fun x60 => ((fI M 11 v0 24).bind fun x67 => ((fR M 11 v0 14).bind fun x74 => ((aI M x74 (35 + v1)).bind fun x81 => ((tI M x60 ((164 * x67) + v1) x81).bind fun M82 => fX11_snap_L52 N v0 n (v1 + 1) M82))))))
def fX11_snap_J50 (N : Nat) (v0 : Nat) (M : Mem) : Option (Unit × Mem) := ((fX11_snap_L52 N v0 N 0 M).bind fun o52 => ((fI o52 11 v0 24).bind fun x91 => ((pI o52 11 v0 24 (x91 + 1)).bind fun M96 => some ((), M96))))
def fX11_snap_L11 (N : Nat) (v0 : Nat) : Nat → Int32 → Mem → Option (Mem)
  | 0, _, _ => none
  | n + 1, v1, M => (if 1148 ≤ v1 then some M else ((fR M 11 v0 17).bind fun x19 => ((fR M 11 v0 17).bind fun x24 => ((aI M x24 (v1 + 164)).bind fun x32 => ((tI M x19 v1 x32).bind fun M33 => fX11_snap_L11 N v0 n (v1 + 1) M33)))))
def fX11_snap (N : Nat) (v0 : Nat) (M : Mem) : Option (Unit × Mem) := ((fI M 11 v0 24).bind fun x1 => (if x1 = 8 then ((fX11_snap_L11 N v0 N 0 M).bind fun o11 => ((fI o11 11 v0 24).bind fun x42 => ((pI o11 11 v0 24 (x42 - 1)).bind fun M47 => fX11_snap_J50 N v0 M47))) else fX11_snap_J50 N v0 M))
set_option maxHeartbeats 4000000 in
set_option maxRecDepth 100000 in
theorem k_X11_snap (l : Launch) (b : Nat) (D : va_G) (cy : Nat → ClassId) (N : Nat) (v0 : Nat) (M : Mem) (r : Unit) (Mf : Mem) (h : fX11_snap N v0 M = some (r, Mf)) : Ct l yX11_snap cX11_snap 2 none 1 0 0 b D cy [.ref (b + v0)] M none Mf := by
  refine Ct_of (own := RX11) (by decide) rfl (Nat.le_of_ble_eq_true rfl) ?_
  intro p e s m args below meth c F hr hl hmn
  unfold fX11_snap at h
  have J50 : ∀ (v0 : Nat) (M : Mem), fX11_snap_J50 N v0 M = some (r, Mf) → X p l e ({ frames := 1, cells := 0, slots := 0, locals := 100 * 1 }) s m args below meth c (MQ below (Qm b D cy none Mf) args s 0 0 (fun q => b ≤ q)) 2 b D cy 0 0 M 50 [(0, .ref (b + v0))] [] := by
    intro v0 M h
    unfold fX11_snap_J50 at h
    refine x_iconst F (v := 0) dX11_snap_50 (by decide) ?_
    refine x_istore_n F (lv' := [(1, .int 0), (0, .ref (b + v0))]) dX11_snap_51 rfl (by decide) rfl ?_
    have L52 : ∀ (v0 : Nat) (n : Nat) (v1 : Int32) (M : Mem) (o : Mem), fX11_snap_L52 N v0 n v1 M = some o → X p l e ({ frames := 1, cells := 0, slots := 0, locals := 100 * 1 }) s m args below meth c (MQ below (Qm b D cy none Mf) args s 0 0 (fun q => b ≤ q)) 2 b D cy 0 0 o 89 [(0, .ref (b + v0))] [] → X p l e ({ frames := 1, cells := 0, slots := 0, locals := 100 * 1 }) s m args below meth c (MQ below (Qm b D cy none Mf) args s 0 0 (fun q => b ≤ q)) 2 b D cy 0 0 M 52 [(0, .ref (b + v0)), (1, .int v1)] [] := by
      intro v0 n
      induction n with
      | zero => intro v1 M o h; exact absurd h (by rw [fX11_snap_L52]; exact fun z => by cases z)
      | succ n ih =>
        intro v1 M o h hE
        rw [fX11_snap_L52] at h
        refine x_iload_n F dX11_snap_52 rfl 1 rfl ?_
        refine x_sipush F (v := 164) dX11_snap_53 (by decide) ?_
        refine x_icmp_ge F (tgt := 89) dX11_snap_56 (by decide) (fun c56 => ?_) (fun c56 => ?_)
        · rw [if_pos c56] at h
          obtain rfl := Option.some.inj h
          refine x_sub [0] rfl ?_
          exact hE
        · rw [if_neg c56] at h
          refine x_aload_n F dX11_snap_59 rfl 0 rfl ?_
          obtain ⟨x60, c60, h⟩ := bdS h
          refine x_getR F (ci := 11) (C := RX11) (T := TX11) (N := 45) rfl ⟨by decide, rfl⟩ inU11 17 (by decide) (fun _ _ _ => rfl) wl_917 c60 dX11_snap_60 ?_
          refine x_sipush F (v := 164) dX11_snap_63 (by decide) ?_
          refine x_aload_n F dX11_snap_66 rfl 0 rfl ?_
          obtain ⟨x67, c67, h⟩ := bdS h
          refine x_getI F (ci := 11) (C := RX11) (T := TX11) (N := 45) rfl ⟨by decide, rfl⟩ inU11 24 (by decide) (fun _ _ _ => rfl) wl_986 c67 dX11_snap_67 ?_
          refine x_imul F dX11_snap_70 ?_
          refine x_iload_n F dX11_snap_71 rfl 1 rfl ?_
          refine x_iadd F dX11_snap_72 ?_
          refine x_aload_n F dX11_snap_73 rfl 0 rfl ?_
          obtain ⟨x74, c74, h⟩ := bdS h
          refine x_getR F (ci := 11) (C := RX11) (T := TX11) (N := 45) rfl ⟨by decide, rfl⟩ inU11 14 (by decide) (fun _ _ _ => rfl) wl_913 c74 dX11_snap_74 ?_
          refine x_bipush F (v := 35) dX11_snap_77 (by decide) ?_
          refine x_iload_n F dX11_snap_79 rfl 1 rfl ?_
          refine x_iadd F dX11_snap_80 ?_
          obtain ⟨x81, c81, h⟩ := bdS h
          refine x_aI F c81 dX11_snap_81 ?_
          obtain ⟨M82, c82, h⟩ := bdS h
          refine x_tI F c82 dX11_snap_82 ?_
          refine x_iinc F (v := v1 + 1) (lv' := [(1, .int (v1 + 1)), (0, .ref (b + v0))]) dX11_snap_83 1 rfl rfl (by decide) rfl ?_
          refine x_goto F (tgt := 52) dX11_snap_86 (by decide) ?_
          refine x_sub [1, 0] rfl ?_
          exact ih (v1 + 1) M82 o h hE
    obtain ⟨o52, h52, h⟩ := bdS h
    refine x_sub [1, 0] rfl ?_
    refine L52 v0 N 0 M o52 h52 ?_
    refine x_aload_n F dX11_snap_89 rfl 0 rfl ?_
    refine x_dup F dX11_snap_90 rfl ?_
    obtain ⟨x91, c91, h⟩ := bdS h
    refine x_getI F (ci := 11) (C := RX11) (T := TX11) (N := 45) rfl ⟨by decide, rfl⟩ inU11 24 (by decide) (fun _ _ _ => rfl) wl_986 c91 dX11_snap_91 ?_
    refine x_iconst F (v := 1) dX11_snap_94 (by decide) ?_
    refine x_iadd F dX11_snap_95 ?_
    obtain ⟨M96, c96, h⟩ := bdS h
    refine x_putI F (ci := 11) (C := RX11) (T := TX11) (N := 45) rfl ⟨by decide, rfl⟩ inU11 tyX11_ok nmX11 24 (by decide) rfl rfl wl_986 c96 dX11_snap_96 ?_
    obtain ⟨rfl, rfl⟩ := retS h
    exact x_vret F hr hl dX11_snap_99
  show X p l e ({ frames := 1, cells := 0, slots := 0, locals := 100 * 1 }) s m args below meth c (MQ below (Qm b D cy none Mf) args s 0 0 (fun q => b ≤ q)) 2 b D cy 0 0 M 0 [(0, .ref (b + v0))] []
  refine x_aload_n F dX11_snap_0 rfl 0 rfl ?_
  obtain ⟨x1, c1, h⟩ := bdS h
  refine x_getI F (ci := 11) (C := RX11) (T := TX11) (N := 45) rfl ⟨by decide, rfl⟩ inU11 24 (by decide) (fun _ _ _ => rfl) wl_986 c1 dX11_snap_1 ?_
  refine x_bipush F (v := 8) dX11_snap_4 (by decide) ?_
  refine x_icmp_ne F (tgt := 50) dX11_snap_6 (by decide) (fun c6 => ?_) (fun c6 => ?_)
  · rw [if_neg c6] at h
    exact J50 v0 M h
  · rw [if_pos c6] at h
    refine x_iconst F (v := 0) dX11_snap_9 (by decide) ?_
    refine x_istore_n F (lv' := [(1, .int 0), (0, .ref (b + v0))]) dX11_snap_10 rfl (by decide) rfl ?_
    have L11 : ∀ (v0 : Nat) (n : Nat) (v1 : Int32) (M : Mem) (o : Mem), fX11_snap_L11 N v0 n v1 M = some o → X p l e ({ frames := 1, cells := 0, slots := 0, locals := 100 * 1 }) s m args below meth c (MQ below (Qm b D cy none Mf) args s 0 0 (fun q => b ≤ q)) 2 b D cy 0 0 o 40 [(0, .ref (b + v0))] [] → X p l e ({ frames := 1, cells := 0, slots := 0, locals := 100 * 1 }) s m args below meth c (MQ below (Qm b D cy none Mf) args s 0 0 (fun q => b ≤ q)) 2 b D cy 0 0 M 11 [(0, .ref (b + v0)), (1, .int v1)] [] := by
      intro v0 n
      induction n with
      | zero => intro v1 M o h; exact absurd h (by rw [fX11_snap_L11]; exact fun z => by cases z)
      | succ n ih =>
        intro v1 M o h hE
        rw [fX11_snap_L11] at h
        refine x_iload_n F dX11_snap_11 rfl 1 rfl ?_
        refine x_sipush F (v := 1148) dX11_snap_12 (by decide) ?_
        refine x_icmp_ge F (tgt := 40) dX11_snap_15 (by decide) (fun c15 => ?_) (fun c15 => ?_)
        · rw [if_pos c15] at h
          obtain rfl := Option.some.inj h
          refine x_sub [0] rfl ?_
          exact hE
        · rw [if_neg c15] at h
          refine x_aload_n F dX11_snap_18 rfl 0 rfl ?_
          obtain ⟨x19, c19, h⟩ := bdS h
          refine x_getR F (ci := 11) (C := RX11) (T := TX11) (N := 45) rfl ⟨by decide, rfl⟩ inU11 17 (by decide) (fun _ _ _ => rfl) wl_917 c19 dX11_snap_19 ?_
          refine x_iload_n F dX11_snap_22 rfl 1 rfl ?_
          refine x_aload_n F dX11_snap_23 rfl 0 rfl ?_
          obtain ⟨x24, c24, h⟩ := bdS h
          refine x_getR F (ci := 11) (C := RX11) (T := TX11) (N := 45) rfl ⟨by decide, rfl⟩ inU11 17 (by decide) (fun _ _ _ => rfl) wl_917 c24 dX11_snap_24 ?_
          refine x_iload_n F dX11_snap_27 rfl 1 rfl ?_
          refine x_sipush F (v := 164) dX11_snap_28 (by decide) ?_
          refine x_iadd F dX11_snap_31 ?_
          obtain ⟨x32, c32, h⟩ := bdS h
          refine x_aI F c32 dX11_snap_32 ?_
          obtain ⟨M33, c33, h⟩ := bdS h
          refine x_tI F c33 dX11_snap_33 ?_
          refine x_iinc F (v := v1 + 1) (lv' := [(1, .int (v1 + 1)), (0, .ref (b + v0))]) dX11_snap_34 1 rfl rfl (by decide) rfl ?_
          refine x_goto F (tgt := 11) dX11_snap_37 (by decide) ?_
          refine x_sub [1, 0] rfl ?_
          exact ih (v1 + 1) M33 o h hE
    obtain ⟨o11, h11, h⟩ := bdS h
    refine x_sub [1, 0] rfl ?_
    refine L11 v0 N 0 M o11 h11 ?_
    refine x_aload_n F dX11_snap_40 rfl 0 rfl ?_
    refine x_dup F dX11_snap_41 rfl ?_
    obtain ⟨x42, c42, h⟩ := bdS h
    refine x_getI F (ci := 11) (C := RX11) (T := TX11) (N := 45) rfl ⟨by decide, rfl⟩ inU11 24 (by decide) (fun _ _ _ => rfl) wl_986 c42 dX11_snap_42 ?_
    refine x_iconst F (v := 1) dX11_snap_45 (by decide) ?_
    refine x_isub F dX11_snap_46 ?_
    obtain ⟨M47, c47, h⟩ := bdS h
    refine x_putI F (ci := 11) (C := RX11) (T := TX11) (N := 45) rfl ⟨by decide, rfl⟩ inU11 tyX11_ok nmX11 24 (by decide) rfl rfl wl_986 c47 dX11_snap_47 ?_
    exact J50 v0 M47 h
theorem dX11_whyWrite_0 : decode cX11_whyWrite 0 = .ok (.aload_n 0, 1) := by decide +kernel
theorem dX11_whyWrite_1 : decode cX11_whyWrite 1 = .ok (.getfield 98, 3) := by decide +kernel
theorem dX11_whyWrite_4 : decode cX11_whyWrite 4 = .ok (.bipush 45, 2) := by decide +kernel
theorem dX11_whyWrite_6 : decode cX11_whyWrite 6 = .ok (.iload_n 1, 1) := by decide +kernel
theorem dX11_whyWrite_7 : decode cX11_whyWrite 7 = .ok (.iadd, 1) := by decide +kernel
theorem dX11_whyWrite_8 : decode cX11_whyWrite 8 = .ok (.iaload, 1) := by decide +kernel
theorem dX11_whyWrite_9 : decode cX11_whyWrite 9 = .ok (.aload_n 0, 1) := by decide +kernel
theorem dX11_whyWrite_10 : decode cX11_whyWrite 10 = .ok (.getfield 98, 3) := by decide +kernel
theorem dX11_whyWrite_13 : decode cX11_whyWrite 13 = .ok (.bipush 25, 2) := by decide +kernel
theorem dX11_whyWrite_15 : decode cX11_whyWrite 15 = .ok (.iload_n 1, 1) := by decide +kernel
theorem dX11_whyWrite_16 : decode cX11_whyWrite 16 = .ok (.iadd, 1) := by decide +kernel
theorem dX11_whyWrite_17 : decode cX11_whyWrite 17 = .ok (.iaload, 1) := by decide +kernel
theorem dX11_whyWrite_18 : decode cX11_whyWrite 18 = .ok (.if_icmp .lt 7, 3) := by decide +kernel
theorem dX11_whyWrite_21 : decode cX11_whyWrite 21 = .ok (.iconst 1, 1) := by decide +kernel
theorem dX11_whyWrite_22 : decode cX11_whyWrite 22 = .ok (.goto 18, 3) := by decide +kernel
theorem dX11_whyWrite_25 : decode cX11_whyWrite 25 = .ok (.aload_n 0, 1) := by decide +kernel
theorem dX11_whyWrite_26 : decode cX11_whyWrite 26 = .ok (.iload_n 2, 1) := by decide +kernel
theorem dX11_whyWrite_27 : decode cX11_whyWrite 27 = .ok (.iload_n 3, 1) := by decide +kernel
theorem dX11_whyWrite_28 : decode cX11_whyWrite 28 = .ok (.invokevirtual 219, 3) := by decide +kernel
theorem dX11_whyWrite_31 : decode cX11_whyWrite 31 = .ok (.iconst (-1), 1) := by decide +kernel
theorem dX11_whyWrite_32 : decode cX11_whyWrite 32 = .ok (.if_icmp .eq 7, 3) := by decide +kernel
theorem dX11_whyWrite_35 : decode cX11_whyWrite 35 = .ok (.iconst 2, 1) := by decide +kernel
theorem dX11_whyWrite_36 : decode cX11_whyWrite 36 = .ok (.goto 4, 3) := by decide +kernel
theorem dX11_whyWrite_39 : decode cX11_whyWrite 39 = .ok (.iconst 0, 1) := by decide +kernel
theorem dX11_whyWrite_40 : decode cX11_whyWrite 40 = .ok (.ireturn, 1) := by decide +kernel
def fX11_whyWrite (N : Nat) (v0 : Nat) (v1 : Int32) (v2 : Int32) (v3 : Int32) (M : Mem) : Option (Int32 × Mem) := ((fR M 11 v0 14).bind fun x1 => ((aI M x1 (45 + v1)).bind fun x8 => ((fR M 11 v0 14).bind fun x10 => ((aI M x10 (25 + v1)).bind fun x17 => (if x8 < x17 then (if mK M v0 = 12 then ((fX11_signAt N v0 v2 v3 M).bind fun (x28, M28) => (if x28 = ((-1)) then some (0, M28) else some (2, M28))) else none) else some (1, M))))))
set_option maxHeartbeats 4000000 in
set_option maxRecDepth 100000 in
theorem k_X11_whyWrite (l : Launch) (b : Nat) (D : va_G) (cy : Nat → ClassId) (N : Nat) (v0 : Nat) (v1 : Int32) (v2 : Int32) (v3 : Int32) (M : Mem) (r : Int32) (Mf : Mem) (h : fX11_whyWrite N v0 v1 v2 v3 M = some (r, Mf)) : Ct l yX11_whyWrite cX11_whyWrite 4 (some .int) 2 0 0 b D cy [.ref (b + v0), .int v1, .int v2, .int v3] M (some (.int r)) Mf := by
  refine Ct_of (own := RX11) (by decide) rfl (Nat.le_of_ble_eq_true rfl) ?_
  intro p e s m args below meth c F hr hl hmn
  unfold fX11_whyWrite at h
  show X p l e ({ frames := 2, cells := 0, slots := 0, locals := 100 * 2 }) s m args below meth c (MQ below (Qm b D cy (some (.int r)) Mf) args s 0 0 (fun q => b ≤ q)) 4 b D cy 0 0 M 0 [(0, .ref (b + v0)), (1, .int v1), (2, .int v2), (3, .int v3)] []
  refine x_aload_n F dX11_whyWrite_0 rfl 0 rfl ?_
  obtain ⟨x1, c1, h⟩ := bdS h
  refine x_getR F (ci := 11) (C := RX11) (T := TX11) (N := 45) rfl ⟨by decide, rfl⟩ inU11 14 (by decide) (fun _ _ _ => rfl) wl_913 c1 dX11_whyWrite_1 ?_
  refine x_bipush F (v := 45) dX11_whyWrite_4 (by decide) ?_
  refine x_iload_n F dX11_whyWrite_6 rfl 1 rfl ?_
  refine x_iadd F dX11_whyWrite_7 ?_
  obtain ⟨x8, c8, h⟩ := bdS h
  refine x_aI F c8 dX11_whyWrite_8 ?_
  refine x_aload_n F dX11_whyWrite_9 rfl 0 rfl ?_
  obtain ⟨x10, c10, h⟩ := bdS h
  refine x_getR F (ci := 11) (C := RX11) (T := TX11) (N := 45) rfl ⟨by decide, rfl⟩ inU11 14 (by decide) (fun _ _ _ => rfl) wl_913 c10 dX11_whyWrite_10 ?_
  refine x_bipush F (v := 25) dX11_whyWrite_13 (by decide) ?_
  refine x_iload_n F dX11_whyWrite_15 rfl 1 rfl ?_
  refine x_iadd F dX11_whyWrite_16 ?_
  obtain ⟨x17, c17, h⟩ := bdS h
  refine x_aI F c17 dX11_whyWrite_17 ?_
  refine x_icmp_lt F (tgt := 25) dX11_whyWrite_18 (by decide) (fun c18 => ?_) (fun c18 => ?_)
  · rw [if_pos c18] at h
    refine x_aload_n F dX11_whyWrite_25 rfl 0 rfl ?_
    refine x_iload_n F dX11_whyWrite_26 rfl 2 rfl ?_
    refine x_iload_n F dX11_whyWrite_27 rfl 3 rfl ?_
    obtain ⟨k28, h⟩ := gdS h
    obtain ⟨⟨x28, M28⟩, c28, h⟩ := bdS h
    dsimp only at h
    refine x_callV F (As := [.int v2, .int v3]) (rest := []) (res := (some (.int x28))) (ci := 11) (q := (RX11, TX11, 45)) rfl (by decide) k28 (k_X11_signAt l b D cy N v0 v2 v3 M _ _ c28) wl_1011 wl_1012 wl_1013 wl_854 wl_1002 hd_X11_signAt ⟨Nat.le_of_ble_eq_true rfl, Nat.le_of_ble_eq_true rfl⟩ ⟨Nat.le_refl _, Nat.le_refl _⟩ (Nat.le_of_ble_eq_true rfl) rfl dX11_whyWrite_28 ?_
    refine x_iconst F (v := (-1)) dX11_whyWrite_31 (by decide) ?_
    refine x_icmp_eq F (tgt := 39) dX11_whyWrite_32 (by decide) (fun c32 => ?_) (fun c32 => ?_)
    · rw [if_pos c32] at h
      refine x_iconst F (v := 0) dX11_whyWrite_39 (by decide) ?_
      obtain ⟨rfl, rfl⟩ := retS h
      exact x_iret F hr hl dX11_whyWrite_40
    · rw [if_neg c32] at h
      refine x_iconst F (v := 2) dX11_whyWrite_35 (by decide) ?_
      refine x_goto F (tgt := 40) dX11_whyWrite_36 (by decide) ?_
      obtain ⟨rfl, rfl⟩ := retS h
      exact x_iret F hr hl dX11_whyWrite_40
  · rw [if_neg c18] at h
    refine x_iconst F (v := 1) dX11_whyWrite_21 (by decide) ?_
    refine x_goto F (tgt := 40) dX11_whyWrite_22 (by decide) ?_
    obtain ⟨rfl, rfl⟩ := retS h
    exact x_iret F hr hl dX11_whyWrite_40
theorem dX11_doWrite_0 : decode cX11_doWrite 0 = .ok (.aload_n 0, 1) := by decide +kernel
theorem dX11_doWrite_1 : decode cX11_doWrite 1 = .ok (.getfield 98, 3) := by decide +kernel
theorem dX11_doWrite_4 : decode cX11_doWrite 4 = .ok (.bipush 55, 2) := by decide +kernel
theorem dX11_doWrite_6 : decode cX11_doWrite 6 = .ok (.bipush 12, 2) := by decide +kernel
theorem dX11_doWrite_8 : decode cX11_doWrite 8 = .ok (.iload_n 2, 1) := by decide +kernel
theorem dX11_doWrite_9 : decode cX11_doWrite 9 = .ok (.imul, 1) := by decide +kernel
theorem dX11_doWrite_10 : decode cX11_doWrite 10 = .ok (.iadd, 1) := by decide +kernel
theorem dX11_doWrite_11 : decode cX11_doWrite 11 = .ok (.iload_n 3, 1) := by decide +kernel
theorem dX11_doWrite_12 : decode cX11_doWrite 12 = .ok (.iadd, 1) := by decide +kernel
theorem dX11_doWrite_13 : decode cX11_doWrite 13 = .ok (.iload 4, 2) := by decide +kernel
theorem dX11_doWrite_15 : decode cX11_doWrite 15 = .ok (.iastore, 1) := by decide +kernel
theorem dX11_doWrite_16 : decode cX11_doWrite 16 = .ok (.aload_n 0, 1) := by decide +kernel
theorem dX11_doWrite_17 : decode cX11_doWrite 17 = .ok (.getfield 98, 3) := by decide +kernel
theorem dX11_doWrite_20 : decode cX11_doWrite 20 = .ok (.bipush 127, 2) := by decide +kernel
theorem dX11_doWrite_22 : decode cX11_doWrite 22 = .ok (.bipush 12, 2) := by decide +kernel
theorem dX11_doWrite_24 : decode cX11_doWrite 24 = .ok (.iload_n 2, 1) := by decide +kernel
theorem dX11_doWrite_25 : decode cX11_doWrite 25 = .ok (.imul, 1) := by decide +kernel
theorem dX11_doWrite_26 : decode cX11_doWrite 26 = .ok (.iadd, 1) := by decide +kernel
theorem dX11_doWrite_27 : decode cX11_doWrite 27 = .ok (.iload_n 3, 1) := by decide +kernel
theorem dX11_doWrite_28 : decode cX11_doWrite 28 = .ok (.iadd, 1) := by decide +kernel
theorem dX11_doWrite_29 : decode cX11_doWrite 29 = .ok (.iload_n 1, 1) := by decide +kernel
theorem dX11_doWrite_30 : decode cX11_doWrite 30 = .ok (.iastore, 1) := by decide +kernel
theorem dX11_doWrite_31 : decode cX11_doWrite 31 = .ok (.aload_n 0, 1) := by decide +kernel
theorem dX11_doWrite_32 : decode cX11_doWrite 32 = .ok (.getfield 98, 3) := by decide +kernel
theorem dX11_doWrite_35 : decode cX11_doWrite 35 = .ok (.bipush 45, 2) := by decide +kernel
theorem dX11_doWrite_37 : decode cX11_doWrite 37 = .ok (.iload_n 1, 1) := by decide +kernel
theorem dX11_doWrite_38 : decode cX11_doWrite 38 = .ok (.iadd, 1) := by decide +kernel
theorem dX11_doWrite_39 : decode cX11_doWrite 39 = .ok (.dup2, 1) := by decide +kernel
theorem dX11_doWrite_40 : decode cX11_doWrite 40 = .ok (.iaload, 1) := by decide +kernel
theorem dX11_doWrite_41 : decode cX11_doWrite 41 = .ok (.iconst 1, 1) := by decide +kernel
theorem dX11_doWrite_42 : decode cX11_doWrite 42 = .ok (.iadd, 1) := by decide +kernel
theorem dX11_doWrite_43 : decode cX11_doWrite 43 = .ok (.iastore, 1) := by decide +kernel
theorem dX11_doWrite_44 : decode cX11_doWrite 44 = .ok (.aload_n 0, 1) := by decide +kernel
theorem dX11_doWrite_45 : decode cX11_doWrite 45 = .ok (.getfield 98, 3) := by decide +kernel
theorem dX11_doWrite_48 : decode cX11_doWrite 48 = .ok (.bipush 36, 2) := by decide +kernel
theorem dX11_doWrite_50 : decode cX11_doWrite 50 = .ok (.dup2, 1) := by decide +kernel
theorem dX11_doWrite_51 : decode cX11_doWrite 51 = .ok (.iaload, 1) := by decide +kernel
theorem dX11_doWrite_52 : decode cX11_doWrite 52 = .ok (.iconst 1, 1) := by decide +kernel
theorem dX11_doWrite_53 : decode cX11_doWrite 53 = .ok (.iadd, 1) := by decide +kernel
theorem dX11_doWrite_54 : decode cX11_doWrite 54 = .ok (.iastore, 1) := by decide +kernel
theorem dX11_doWrite_55 : decode cX11_doWrite 55 = .ok (.aload_n 0, 1) := by decide +kernel
theorem dX11_doWrite_56 : decode cX11_doWrite 56 = .ok (.getfield 98, 3) := by decide +kernel
theorem dX11_doWrite_59 : decode cX11_doWrite 59 = .ok (.bipush 37, 2) := by decide +kernel
theorem dX11_doWrite_61 : decode cX11_doWrite 61 = .ok (.dup2, 1) := by decide +kernel
theorem dX11_doWrite_62 : decode cX11_doWrite 62 = .ok (.iaload, 1) := by decide +kernel
theorem dX11_doWrite_63 : decode cX11_doWrite 63 = .ok (.iload 4, 2) := by decide +kernel
theorem dX11_doWrite_65 : decode cX11_doWrite 65 = .ok (.invokestatic 227, 3) := by decide +kernel
theorem dX11_doWrite_68 : decode cX11_doWrite 68 = .ok (.iadd, 1) := by decide +kernel
theorem dX11_doWrite_69 : decode cX11_doWrite 69 = .ok (.iastore, 1) := by decide +kernel
theorem dX11_doWrite_70 : decode cX11_doWrite 70 = .ok (.return_, 1) := by decide +kernel
def fX11_doWrite (N : Nat) (v0 : Nat) (v1 : Int32) (v2 : Int32) (v3 : Int32) (v4 : Int32) (M : Mem) : Option (Unit × Mem) := ((fR M 11 v0 14).bind fun x1 => ((tI M x1 ((55 + (12 * v2)) + v3) v4).bind fun M15 => ((fR M15 11 v0 14).bind fun x17 => ((tI M15 x17 ((127 + (12 * v2)) + v3) v1).bind fun M30 => ((fR M30 11 v0 14).bind fun x32 => ((aI M30 x32 (45 + v1)).bind fun x40 => ((tI M30 x32 (45 + v1) (x40 + 1)).bind fun M43 => ((fR M43 11 v0 14).bind fun x45 => ((aI M43 x45 36).bind fun x51 => ((tI M43 x45 36 (x51 + 1)).bind fun M54 => ((fR M54 11 v0 14).bind fun x56 => ((aI M54 x56 37).bind fun x62 => ((fX11_strokesOf N v4 M54).bind fun (x65, M65) => ((tI M65 x56 37 (x62 + x65)).bind fun M69 => some ((), M69)))))))))))))))
set_option maxHeartbeats 4000000 in
set_option maxRecDepth 100000 in
theorem k_X11_doWrite (l : Launch) (b : Nat) (D : va_G) (cy : Nat → ClassId) (N : Nat) (v0 : Nat) (v1 : Int32) (v2 : Int32) (v3 : Int32) (v4 : Int32) (M : Mem) (r : Unit) (Mf : Mem) (h : fX11_doWrite N v0 v1 v2 v3 v4 M = some (r, Mf)) : Ct l yX11_doWrite cX11_doWrite 5 none 2 0 0 b D cy [.ref (b + v0), .int v1, .int v2, .int v3, .int v4] M none Mf := by
  refine Ct_of (own := RX11) (by decide) rfl (Nat.le_of_ble_eq_true rfl) ?_
  intro p e s m args below meth c F hr hl hmn
  unfold fX11_doWrite at h
  show X p l e ({ frames := 2, cells := 0, slots := 0, locals := 100 * 2 }) s m args below meth c (MQ below (Qm b D cy none Mf) args s 0 0 (fun q => b ≤ q)) 5 b D cy 0 0 M 0 [(0, .ref (b + v0)), (1, .int v1), (2, .int v2), (3, .int v3), (4, .int v4)] []
  refine x_aload_n F dX11_doWrite_0 rfl 0 rfl ?_
  obtain ⟨x1, c1, h⟩ := bdS h
  refine x_getR F (ci := 11) (C := RX11) (T := TX11) (N := 45) rfl ⟨by decide, rfl⟩ inU11 14 (by decide) (fun _ _ _ => rfl) wl_913 c1 dX11_doWrite_1 ?_
  refine x_bipush F (v := 55) dX11_doWrite_4 (by decide) ?_
  refine x_bipush F (v := 12) dX11_doWrite_6 (by decide) ?_
  refine x_iload_n F dX11_doWrite_8 rfl 2 rfl ?_
  refine x_imul F dX11_doWrite_9 ?_
  refine x_iadd F dX11_doWrite_10 ?_
  refine x_iload_n F dX11_doWrite_11 rfl 3 rfl ?_
  refine x_iadd F dX11_doWrite_12 ?_
  refine x_iload F dX11_doWrite_13 4 rfl ?_
  obtain ⟨M15, c15, h⟩ := bdS h
  refine x_tI F c15 dX11_doWrite_15 ?_
  refine x_aload_n F dX11_doWrite_16 rfl 0 rfl ?_
  obtain ⟨x17, c17, h⟩ := bdS h
  refine x_getR F (ci := 11) (C := RX11) (T := TX11) (N := 45) rfl ⟨by decide, rfl⟩ inU11 14 (by decide) (fun _ _ _ => rfl) wl_913 c17 dX11_doWrite_17 ?_
  refine x_bipush F (v := 127) dX11_doWrite_20 (by decide) ?_
  refine x_bipush F (v := 12) dX11_doWrite_22 (by decide) ?_
  refine x_iload_n F dX11_doWrite_24 rfl 2 rfl ?_
  refine x_imul F dX11_doWrite_25 ?_
  refine x_iadd F dX11_doWrite_26 ?_
  refine x_iload_n F dX11_doWrite_27 rfl 3 rfl ?_
  refine x_iadd F dX11_doWrite_28 ?_
  refine x_iload_n F dX11_doWrite_29 rfl 1 rfl ?_
  obtain ⟨M30, c30, h⟩ := bdS h
  refine x_tI F c30 dX11_doWrite_30 ?_
  refine x_aload_n F dX11_doWrite_31 rfl 0 rfl ?_
  obtain ⟨x32, c32, h⟩ := bdS h
  refine x_getR F (ci := 11) (C := RX11) (T := TX11) (N := 45) rfl ⟨by decide, rfl⟩ inU11 14 (by decide) (fun _ _ _ => rfl) wl_913 c32 dX11_doWrite_32 ?_
  refine x_bipush F (v := 45) dX11_doWrite_35 (by decide) ?_
  refine x_iload_n F dX11_doWrite_37 rfl 1 rfl ?_
  refine x_iadd F dX11_doWrite_38 ?_
  refine x_dup2 F dX11_doWrite_39 rfl rfl ?_
  obtain ⟨x40, c40, h⟩ := bdS h
  refine x_aI F c40 dX11_doWrite_40 ?_
  refine x_iconst F (v := 1) dX11_doWrite_41 (by decide) ?_
  refine x_iadd F dX11_doWrite_42 ?_
  obtain ⟨M43, c43, h⟩ := bdS h
  refine x_tI F c43 dX11_doWrite_43 ?_
  refine x_aload_n F dX11_doWrite_44 rfl 0 rfl ?_
  obtain ⟨x45, c45, h⟩ := bdS h
  refine x_getR F (ci := 11) (C := RX11) (T := TX11) (N := 45) rfl ⟨by decide, rfl⟩ inU11 14 (by decide) (fun _ _ _ => rfl) wl_913 c45 dX11_doWrite_45 ?_
  refine x_bipush F (v := 36) dX11_doWrite_48 (by decide) ?_
  refine x_dup2 F dX11_doWrite_50 rfl rfl ?_
  obtain ⟨x51, c51, h⟩ := bdS h
  refine x_aI F c51 dX11_doWrite_51 ?_
  refine x_iconst F (v := 1) dX11_doWrite_52 (by decide) ?_
  refine x_iadd F dX11_doWrite_53 ?_
  obtain ⟨M54, c54, h⟩ := bdS h
  refine x_tI F c54 dX11_doWrite_54 ?_
  refine x_aload_n F dX11_doWrite_55 rfl 0 rfl ?_
  obtain ⟨x56, c56, h⟩ := bdS h
  refine x_getR F (ci := 11) (C := RX11) (T := TX11) (N := 45) rfl ⟨by decide, rfl⟩ inU11 14 (by decide) (fun _ _ _ => rfl) wl_913 c56 dX11_doWrite_56 ?_
  refine x_bipush F (v := 37) dX11_doWrite_59 (by decide) ?_
  refine x_dup2 F dX11_doWrite_61 rfl rfl ?_
  obtain ⟨x62, c62, h⟩ := bdS h
  refine x_aI F c62 dX11_doWrite_62 ?_
  refine x_iload F dX11_doWrite_63 4 rfl ?_
  obtain ⟨⟨x65, M65⟩, c65, h⟩ := bdS h
  dsimp only at h
  refine x_callS F (As := [.int v4]) (rest := [.int x62, .int 37, .ref (b + x56)]) (res := (some (.int x65))) (k_X11_strokesOf l b D cy N v4 M54 _ _ c65) wl_1017 wl_1018 wl_854 wl_1008 (hd_X11_strokesOf).2 ⟨Nat.le_of_ble_eq_true rfl, Nat.le_of_ble_eq_true rfl⟩ ⟨Nat.le_refl _, Nat.le_refl _⟩ (Nat.le_of_ble_eq_true rfl) rfl dX11_doWrite_65 ?_
  refine x_iadd F dX11_doWrite_68 ?_
  obtain ⟨M69, c69, h⟩ := bdS h
  refine x_tI F c69 dX11_doWrite_69 ?_
  obtain ⟨rfl, rfl⟩ := retS h
  exact x_vret F hr hl dX11_doWrite_70
theorem dX11_whyTread_0 : decode cX11_whyTread 0 = .ok (.aload_n 0, 1) := by decide +kernel
theorem dX11_whyTread_1 : decode cX11_whyTread 1 = .ok (.iload_n 1, 1) := by decide +kernel
theorem dX11_whyTread_2 : decode cX11_whyTread 2 = .ok (.iload_n 2, 1) := by decide +kernel
theorem dX11_whyTread_3 : decode cX11_whyTread 3 = .ok (.invokevirtual 219, 3) := by decide +kernel
theorem dX11_whyTread_6 : decode cX11_whyTread 6 = .ok (.iconst (-1), 1) := by decide +kernel
theorem dX11_whyTread_7 : decode cX11_whyTread 7 = .ok (.if_icmp .ne 7, 3) := by decide +kernel
theorem dX11_whyTread_10 : decode cX11_whyTread 10 = .ok (.iconst 1, 1) := by decide +kernel
theorem dX11_whyTread_11 : decode cX11_whyTread 11 = .ok (.goto 4, 3) := by decide +kernel
theorem dX11_whyTread_14 : decode cX11_whyTread 14 = .ok (.iconst 0, 1) := by decide +kernel
theorem dX11_whyTread_15 : decode cX11_whyTread 15 = .ok (.ireturn, 1) := by decide +kernel
def fX11_whyTread (N : Nat) (v0 : Nat) (v1 : Int32) (v2 : Int32) (M : Mem) : Option (Int32 × Mem) := (if mK M v0 = 12 then ((fX11_signAt N v0 v1 v2 M).bind fun (x3, M3) => (if x3 = ((-1)) then some (1, M3) else some (0, M3))) else none)
set_option maxHeartbeats 4000000 in
set_option maxRecDepth 100000 in
theorem k_X11_whyTread (l : Launch) (b : Nat) (D : va_G) (cy : Nat → ClassId) (N : Nat) (v0 : Nat) (v1 : Int32) (v2 : Int32) (M : Mem) (r : Int32) (Mf : Mem) (h : fX11_whyTread N v0 v1 v2 M = some (r, Mf)) : Ct l yX11_whyTread cX11_whyTread 3 (some .int) 2 0 0 b D cy [.ref (b + v0), .int v1, .int v2] M (some (.int r)) Mf := by
  refine Ct_of (own := RX11) (by decide) rfl (Nat.le_of_ble_eq_true rfl) ?_
  intro p e s m args below meth c F hr hl hmn
  unfold fX11_whyTread at h
  show X p l e ({ frames := 2, cells := 0, slots := 0, locals := 100 * 2 }) s m args below meth c (MQ below (Qm b D cy (some (.int r)) Mf) args s 0 0 (fun q => b ≤ q)) 3 b D cy 0 0 M 0 [(0, .ref (b + v0)), (1, .int v1), (2, .int v2)] []
  refine x_aload_n F dX11_whyTread_0 rfl 0 rfl ?_
  refine x_iload_n F dX11_whyTread_1 rfl 1 rfl ?_
  refine x_iload_n F dX11_whyTread_2 rfl 2 rfl ?_
  obtain ⟨k3, h⟩ := gdS h
  obtain ⟨⟨x3, M3⟩, c3, h⟩ := bdS h
  dsimp only at h
  refine x_callV F (As := [.int v1, .int v2]) (rest := []) (res := (some (.int x3))) (ci := 11) (q := (RX11, TX11, 45)) rfl (by decide) k3 (k_X11_signAt l b D cy N v0 v1 v2 M _ _ c3) wl_1011 wl_1012 wl_1013 wl_854 wl_1002 hd_X11_signAt ⟨Nat.le_of_ble_eq_true rfl, Nat.le_of_ble_eq_true rfl⟩ ⟨Nat.le_refl _, Nat.le_refl _⟩ (Nat.le_of_ble_eq_true rfl) rfl dX11_whyTread_3 ?_
  refine x_iconst F (v := (-1)) dX11_whyTread_6 (by decide) ?_
  refine x_icmp_ne F (tgt := 14) dX11_whyTread_7 (by decide) (fun c7 => ?_) (fun c7 => ?_)
  · rw [if_neg c7] at h
    refine x_iconst F (v := 0) dX11_whyTread_14 (by decide) ?_
    obtain ⟨rfl, rfl⟩ := retS h
    exact x_iret F hr hl dX11_whyTread_15
  · rw [if_pos c7] at h
    refine x_iconst F (v := 1) dX11_whyTread_10 (by decide) ?_
    refine x_goto F (tgt := 15) dX11_whyTread_11 (by decide) ?_
    obtain ⟨rfl, rfl⟩ := retS h
    exact x_iret F hr hl dX11_whyTread_15
theorem dX11_doTread_0 : decode cX11_doTread 0 = .ok (.aload_n 0, 1) := by decide +kernel
theorem dX11_doTread_1 : decode cX11_doTread 1 = .ok (.getfield 98, 3) := by decide +kernel
theorem dX11_doTread_4 : decode cX11_doTread 4 = .ok (.bipush 55, 2) := by decide +kernel
theorem dX11_doTread_6 : decode cX11_doTread 6 = .ok (.bipush 12, 2) := by decide +kernel
theorem dX11_doTread_8 : decode cX11_doTread 8 = .ok (.iload_n 1, 1) := by decide +kernel
theorem dX11_doTread_9 : decode cX11_doTread 9 = .ok (.imul, 1) := by decide +kernel
theorem dX11_doTread_10 : decode cX11_doTread 10 = .ok (.iadd, 1) := by decide +kernel
theorem dX11_doTread_11 : decode cX11_doTread 11 = .ok (.iload_n 2, 1) := by decide +kernel
theorem dX11_doTread_12 : decode cX11_doTread 12 = .ok (.iadd, 1) := by decide +kernel
theorem dX11_doTread_13 : decode cX11_doTread 13 = .ok (.iconst (-1), 1) := by decide +kernel
theorem dX11_doTread_14 : decode cX11_doTread 14 = .ok (.iastore, 1) := by decide +kernel
theorem dX11_doTread_15 : decode cX11_doTread 15 = .ok (.aload_n 0, 1) := by decide +kernel
theorem dX11_doTread_16 : decode cX11_doTread 16 = .ok (.getfield 98, 3) := by decide +kernel
theorem dX11_doTread_19 : decode cX11_doTread 19 = .ok (.bipush 127, 2) := by decide +kernel
theorem dX11_doTread_21 : decode cX11_doTread 21 = .ok (.bipush 12, 2) := by decide +kernel
theorem dX11_doTread_23 : decode cX11_doTread 23 = .ok (.iload_n 1, 1) := by decide +kernel
theorem dX11_doTread_24 : decode cX11_doTread 24 = .ok (.imul, 1) := by decide +kernel
theorem dX11_doTread_25 : decode cX11_doTread 25 = .ok (.iadd, 1) := by decide +kernel
theorem dX11_doTread_26 : decode cX11_doTread 26 = .ok (.iload_n 2, 1) := by decide +kernel
theorem dX11_doTread_27 : decode cX11_doTread 27 = .ok (.iadd, 1) := by decide +kernel
theorem dX11_doTread_28 : decode cX11_doTread 28 = .ok (.iconst (-1), 1) := by decide +kernel
theorem dX11_doTread_29 : decode cX11_doTread 29 = .ok (.iastore, 1) := by decide +kernel
theorem dX11_doTread_30 : decode cX11_doTread 30 = .ok (.return_, 1) := by decide +kernel
def fX11_doTread (N : Nat) (v0 : Nat) (v1 : Int32) (v2 : Int32) (M : Mem) : Option (Unit × Mem) := ((fR M 11 v0 14).bind fun x1 => ((tI M x1 ((55 + (12 * v1)) + v2) ((-1))).bind fun M14 => ((fR M14 11 v0 14).bind fun x16 => ((tI M14 x16 ((127 + (12 * v1)) + v2) ((-1))).bind fun M29 => some ((), M29)))))
set_option maxHeartbeats 4000000 in
set_option maxRecDepth 100000 in
theorem k_X11_doTread (l : Launch) (b : Nat) (D : va_G) (cy : Nat → ClassId) (N : Nat) (v0 : Nat) (v1 : Int32) (v2 : Int32) (M : Mem) (r : Unit) (Mf : Mem) (h : fX11_doTread N v0 v1 v2 M = some (r, Mf)) : Ct l yX11_doTread cX11_doTread 3 none 1 0 0 b D cy [.ref (b + v0), .int v1, .int v2] M none Mf := by
  refine Ct_of (own := RX11) (by decide) rfl (Nat.le_of_ble_eq_true rfl) ?_
  intro p e s m args below meth c F hr hl hmn
  unfold fX11_doTread at h
  show X p l e ({ frames := 1, cells := 0, slots := 0, locals := 100 * 1 }) s m args below meth c (MQ below (Qm b D cy none Mf) args s 0 0 (fun q => b ≤ q)) 3 b D cy 0 0 M 0 [(0, .ref (b + v0)), (1, .int v1), (2, .int v2)] []
  refine x_aload_n F dX11_doTread_0 rfl 0 rfl ?_
  obtain ⟨x1, c1, h⟩ := bdS h
  refine x_getR F (ci := 11) (C := RX11) (T := TX11) (N := 45) rfl ⟨by decide, rfl⟩ inU11 14 (by decide) (fun _ _ _ => rfl) wl_913 c1 dX11_doTread_1 ?_
  refine x_bipush F (v := 55) dX11_doTread_4 (by decide) ?_
  refine x_bipush F (v := 12) dX11_doTread_6 (by decide) ?_
  refine x_iload_n F dX11_doTread_8 rfl 1 rfl ?_
  refine x_imul F dX11_doTread_9 ?_
  refine x_iadd F dX11_doTread_10 ?_
  refine x_iload_n F dX11_doTread_11 rfl 2 rfl ?_
  refine x_iadd F dX11_doTread_12 ?_
  refine x_iconst F (v := (-1)) dX11_doTread_13 (by decide) ?_
  obtain ⟨M14, c14, h⟩ := bdS h
  refine x_tI F c14 dX11_doTread_14 ?_
  refine x_aload_n F dX11_doTread_15 rfl 0 rfl ?_
  obtain ⟨x16, c16, h⟩ := bdS h
  refine x_getR F (ci := 11) (C := RX11) (T := TX11) (N := 45) rfl ⟨by decide, rfl⟩ inU11 14 (by decide) (fun _ _ _ => rfl) wl_913 c16 dX11_doTread_16 ?_
  refine x_bipush F (v := 127) dX11_doTread_19 (by decide) ?_
  refine x_bipush F (v := 12) dX11_doTread_21 (by decide) ?_
  refine x_iload_n F dX11_doTread_23 rfl 1 rfl ?_
  refine x_imul F dX11_doTread_24 ?_
  refine x_iadd F dX11_doTread_25 ?_
  refine x_iload_n F dX11_doTread_26 rfl 2 rfl ?_
  refine x_iadd F dX11_doTread_27 ?_
  refine x_iconst F (v := (-1)) dX11_doTread_28 (by decide) ?_
  obtain ⟨M29, c29, h⟩ := bdS h
  refine x_tI F c29 dX11_doTread_29 ?_
  obtain ⟨rfl, rfl⟩ := retS h
  exact x_vret F hr hl dX11_doTread_30
theorem hd_X11_whyWrite : (yX11_whyWrite).cls = RX11 ∧ (yX11_whyWrite).cls ≠ "java/lang/invoke/MethodHandle" ∧ (yX11_whyWrite).cls ≠ "java/lang/invoke/VarHandle" ∧ (parseMethodDescriptor (yX11_whyWrite).desc).map (fun d => d.parameters.length) = some 3 := by decide +kernel
theorem hd_X11_snap : (yX11_snap).cls = RX11 ∧ (yX11_snap).cls ≠ "java/lang/invoke/MethodHandle" ∧ (yX11_snap).cls ≠ "java/lang/invoke/VarHandle" ∧ (parseMethodDescriptor (yX11_snap).desc).map (fun d => d.parameters.length) = some 0 := by decide +kernel
theorem hd_X11_doWrite : (yX11_doWrite).cls = RX11 ∧ (yX11_doWrite).cls ≠ "java/lang/invoke/MethodHandle" ∧ (yX11_doWrite).cls ≠ "java/lang/invoke/VarHandle" ∧ (parseMethodDescriptor (yX11_doWrite).desc).map (fun d => d.parameters.length) = some 4 := by decide +kernel
theorem dX11_write_0 : decode cX11_write 0 = .ok (.aload_n 0, 1) := by decide +kernel
theorem dX11_write_1 : decode cX11_write 1 = .ok (.iconst 0, 1) := by decide +kernel
theorem dX11_write_2 : decode cX11_write 2 = .ok (.putfield 1, 3) := by decide +kernel
theorem dX11_write_5 : decode cX11_write 5 = .ok (.aload_n 0, 1) := by decide +kernel
theorem dX11_write_6 : decode cX11_write 6 = .ok (.iload_n 1, 1) := by decide +kernel
theorem dX11_write_7 : decode cX11_write 7 = .ok (.invokevirtual 267, 3) := by decide +kernel
theorem dX11_write_10 : decode cX11_write 10 = .ok (.ifCond .eq 31, 3) := by decide +kernel
theorem dX11_write_13 : decode cX11_write 13 = .ok (.aload_n 0, 1) := by decide +kernel
theorem dX11_write_14 : decode cX11_write 14 = .ok (.iload_n 2, 1) := by decide +kernel
theorem dX11_write_15 : decode cX11_write 15 = .ok (.invokevirtual 246, 3) := by decide +kernel
theorem dX11_write_18 : decode cX11_write 18 = .ok (.ifCond .eq 23, 3) := by decide +kernel
theorem dX11_write_21 : decode cX11_write 21 = .ok (.aload_n 0, 1) := by decide +kernel
theorem dX11_write_22 : decode cX11_write 22 = .ok (.iload_n 2, 1) := by decide +kernel
theorem dX11_write_23 : decode cX11_write 23 = .ok (.iload_n 3, 1) := by decide +kernel
theorem dX11_write_24 : decode cX11_write 24 = .ok (.invokevirtual 255, 3) := by decide +kernel
theorem dX11_write_27 : decode cX11_write 27 = .ok (.ifCond .eq 14, 3) := by decide +kernel
theorem dX11_write_30 : decode cX11_write 30 = .ok (.iload 4, 2) := by decide +kernel
theorem dX11_write_32 : decode cX11_write 32 = .ok (.iconst 0, 1) := by decide +kernel
theorem dX11_write_33 : decode cX11_write 33 = .ok (.bipush 9, 2) := by decide +kernel
theorem dX11_write_35 : decode cX11_write 35 = .ok (.invokestatic 75, 3) := by decide +kernel
theorem dX11_write_38 : decode cX11_write 38 = .ok (.ifCond .ne 5, 3) := by decide +kernel
theorem dX11_write_41 : decode cX11_write 41 = .ok (.iconst (-1), 1) := by decide +kernel
theorem dX11_write_42 : decode cX11_write 42 = .ok (.ireturn, 1) := by decide +kernel
theorem dX11_write_43 : decode cX11_write 43 = .ok (.aload_n 0, 1) := by decide +kernel
theorem dX11_write_44 : decode cX11_write 44 = .ok (.iload_n 1, 1) := by decide +kernel
theorem dX11_write_45 : decode cX11_write 45 = .ok (.iload_n 2, 1) := by decide +kernel
theorem dX11_write_46 : decode cX11_write 46 = .ok (.iload_n 3, 1) := by decide +kernel
theorem dX11_write_47 : decode cX11_write 47 = .ok (.invokevirtual 270, 3) := by decide +kernel
theorem dX11_write_50 : decode cX11_write 50 = .ok (.istore 5, 2) := by decide +kernel
theorem dX11_write_52 : decode cX11_write 52 = .ok (.iload 5, 2) := by decide +kernel
theorem dX11_write_54 : decode cX11_write 54 = .ok (.ifCond .eq 6, 3) := by decide +kernel
theorem dX11_write_57 : decode cX11_write 57 = .ok (.iload 5, 2) := by decide +kernel
theorem dX11_write_59 : decode cX11_write 59 = .ok (.ireturn, 1) := by decide +kernel
theorem dX11_write_60 : decode cX11_write 60 = .ok (.aload_n 0, 1) := by decide +kernel
theorem dX11_write_61 : decode cX11_write 61 = .ok (.invokevirtual 273, 3) := by decide +kernel
theorem dX11_write_64 : decode cX11_write 64 = .ok (.aload_n 0, 1) := by decide +kernel
theorem dX11_write_65 : decode cX11_write 65 = .ok (.iload_n 1, 1) := by decide +kernel
theorem dX11_write_66 : decode cX11_write 66 = .ok (.iload_n 2, 1) := by decide +kernel
theorem dX11_write_67 : decode cX11_write 67 = .ok (.iload_n 3, 1) := by decide +kernel
theorem dX11_write_68 : decode cX11_write 68 = .ok (.iload 4, 2) := by decide +kernel
theorem dX11_write_70 : decode cX11_write 70 = .ok (.invokevirtual 276, 3) := by decide +kernel
theorem dX11_write_73 : decode cX11_write 73 = .ok (.iconst 0, 1) := by decide +kernel
theorem dX11_write_74 : decode cX11_write 74 = .ok (.ireturn, 1) := by decide +kernel
def fX11_write (N : Nat) (v0 : Nat) (v1 : Int32) (v2 : Int32) (v3 : Int32) (v4 : Int32) (M : Mem) : Option (Int32 × Mem) := ((pI M 11 v0 0 0).bind fun M2 => (if mK M2 v0 = 12 then ((fX11_isWriter N v0 v1 M2).bind fun (x7, M7) => (if x7 = 0 then some ((-1), M7) else (if mK M7 v0 = 12 then ((fX11_isBand N v0 v2 M7).bind fun (x15, M15) => (if x15 = 0 then some ((-1), M15) else (if mK M15 v0 = 12 then ((fX11_isPlace N v0 v2 v3 M15).bind fun (x24, M24) => (if x24 = 0 then some ((-1), M24) else ((fX11_isIn N v4 0 9 M24).bind fun (x35, M35) => (if x35 = 0 then some ((-1), M35) else (if mK M35 v0 = 12 then ((fX11_whyWrite N v0 v1 v2 v3 M35).bind fun (x47, M47) => (if x47 = 0 then (if mK M47 v0 = 12 then ((fX11_snap N v0 M47).bind fun (u61, M61) => (if mK M61 v0 = 12 then ((fX11_doWrite N v0 v1 v2 v3 v4 M61).bind fun (u70, M70) => some (0, M70)) else none)) else none) else some (x47, M47))) else none))))) else none))) else none))) else none))
set_option maxHeartbeats 4000000 in
set_option maxRecDepth 100000 in
theorem k_X11_write (l : Launch) (b : Nat) (D : va_G) (cy : Nat → ClassId) (N : Nat) (v0 : Nat) (v1 : Int32) (v2 : Int32) (v3 : Int32) (v4 : Int32) (M : Mem) (r : Int32) (Mf : Mem) (h : fX11_write N v0 v1 v2 v3 v4 M = some (r, Mf)) : Ct l yX11_write cX11_write 6 (some .int) 3 0 0 b D cy [.ref (b + v0), .int v1, .int v2, .int v3, .int v4] M (some (.int r)) Mf := by
  refine Ct_of (own := RX11) (by decide) rfl (Nat.le_of_ble_eq_true rfl) ?_
  intro p e s m args below meth c F hr hl hmn
  unfold fX11_write at h
  show X p l e ({ frames := 3, cells := 0, slots := 0, locals := 100 * 3 }) s m args below meth c (MQ below (Qm b D cy (some (.int r)) Mf) args s 0 0 (fun q => b ≤ q)) 6 b D cy 0 0 M 0 [(0, .ref (b + v0)), (1, .int v1), (2, .int v2), (3, .int v3), (4, .int v4)] []
  refine x_aload_n F dX11_write_0 rfl 0 rfl ?_
  refine x_iconst F (v := 0) dX11_write_1 (by decide) ?_
  obtain ⟨M2, c2, h⟩ := bdS h
  refine x_putI F (ci := 11) (C := RX11) (T := TX11) (N := 45) rfl ⟨by decide, rfl⟩ inU11 tyX11_ok nmX11 0 (by decide) rfl rfl wl_845 c2 dX11_write_2 ?_
  refine x_aload_n F dX11_write_5 rfl 0 rfl ?_
  refine x_iload_n F dX11_write_6 rfl 1 rfl ?_
  obtain ⟨k7, h⟩ := gdS h
  obtain ⟨⟨x7, M7⟩, c7, h⟩ := bdS h
  dsimp only at h
  refine x_callV F (As := [.int v1]) (rest := []) (res := (some (.int x7))) (ci := 11) (q := (RX11, TX11, 45)) rfl (by decide) k7 (k_X11_isWriter l b D cy N v0 v1 M2 _ _ c7) wl_1065 wl_1066 wl_1067 wl_854 wl_999 hd_X11_isWriter ⟨Nat.le_of_ble_eq_true rfl, Nat.le_of_ble_eq_true rfl⟩ ⟨Nat.le_refl _, Nat.le_refl _⟩ (Nat.le_of_ble_eq_true rfl) rfl dX11_write_7 ?_
  refine x_if_eq F (tgt := 41) dX11_write_10 (by decide) (fun c10 => ?_) (fun c10 => ?_)
  · rw [if_pos c10] at h
    refine x_iconst F (v := (-1)) dX11_write_41 (by decide) ?_
    obtain ⟨rfl, rfl⟩ := retS h
    exact x_iret F hr hl dX11_write_42
  · rw [if_neg c10] at h
    refine x_aload_n F dX11_write_13 rfl 0 rfl ?_
    refine x_iload_n F dX11_write_14 rfl 2 rfl ?_
    obtain ⟨k15, h⟩ := gdS h
    obtain ⟨⟨x15, M15⟩, c15, h⟩ := bdS h
    dsimp only at h
    refine x_callV F (As := [.int v2]) (rest := []) (res := (some (.int x15))) (ci := 11) (q := (RX11, TX11, 45)) rfl (by decide) k15 (k_X11_isBand l b D cy N v0 v2 M7 _ _ c15) wl_1039 wl_1040 wl_1041 wl_854 wl_998 hd_X11_isBand ⟨Nat.le_of_ble_eq_true rfl, Nat.le_of_ble_eq_true rfl⟩ ⟨Nat.le_refl _, Nat.le_refl _⟩ (Nat.le_of_ble_eq_true rfl) rfl dX11_write_15 ?_
    refine x_if_eq F (tgt := 41) dX11_write_18 (by decide) (fun c18 => ?_) (fun c18 => ?_)
    · rw [if_pos c18] at h
      refine x_iconst F (v := (-1)) dX11_write_41 (by decide) ?_
      obtain ⟨rfl, rfl⟩ := retS h
      exact x_iret F hr hl dX11_write_42
    · rw [if_neg c18] at h
      refine x_aload_n F dX11_write_21 rfl 0 rfl ?_
      refine x_iload_n F dX11_write_22 rfl 2 rfl ?_
      refine x_iload_n F dX11_write_23 rfl 3 rfl ?_
      obtain ⟨k24, h⟩ := gdS h
      obtain ⟨⟨x24, M24⟩, c24, h⟩ := bdS h
      dsimp only at h
      refine x_callV F (As := [.int v2, .int v3]) (rest := []) (res := (some (.int x24))) (ci := 11) (q := (RX11, TX11, 45)) rfl (by decide) k24 (k_X11_isPlace l b D cy N v0 v2 v3 M15 _ _ c24) wl_1050 wl_1051 wl_1052 wl_854 wl_1001 hd_X11_isPlace ⟨Nat.le_of_ble_eq_true rfl, Nat.le_of_ble_eq_true rfl⟩ ⟨Nat.le_refl _, Nat.le_refl _⟩ (Nat.le_of_ble_eq_true rfl) rfl dX11_write_24 ?_
      refine x_if_eq F (tgt := 41) dX11_write_27 (by decide) (fun c27 => ?_) (fun c27 => ?_)
      · rw [if_pos c27] at h
        refine x_iconst F (v := (-1)) dX11_write_41 (by decide) ?_
        obtain ⟨rfl, rfl⟩ := retS h
        exact x_iret F hr hl dX11_write_42
      · rw [if_neg c27] at h
        refine x_iload F dX11_write_30 4 rfl ?_
        refine x_iconst F (v := 0) dX11_write_32 (by decide) ?_
        refine x_bipush F (v := 9) dX11_write_33 (by decide) ?_
        obtain ⟨⟨x35, M35⟩, c35, h⟩ := bdS h
        dsimp only at h
        refine x_callS F (As := [.int v4, .int 0, .int 9]) (rest := []) (res := (some (.int x35))) (k_X11_isIn l b D cy N v4 0 9 M24 _ _ c35) wl_898 wl_899 wl_854 wl_857 (hd_X11_isIn).2 ⟨Nat.le_of_ble_eq_true rfl, Nat.le_of_ble_eq_true rfl⟩ ⟨Nat.le_refl _, Nat.le_refl _⟩ (Nat.le_of_ble_eq_true rfl) rfl dX11_write_35 ?_
        refine x_if_ne F (tgt := 43) dX11_write_38 (by decide) (fun c38 => ?_) (fun c38 => ?_)
        · rw [if_neg c38] at h
          refine x_aload_n F dX11_write_43 rfl 0 rfl ?_
          refine x_iload_n F dX11_write_44 rfl 1 rfl ?_
          refine x_iload_n F dX11_write_45 rfl 2 rfl ?_
          refine x_iload_n F dX11_write_46 rfl 3 rfl ?_
          obtain ⟨k47, h⟩ := gdS h
          obtain ⟨⟨x47, M47⟩, c47, h⟩ := bdS h
          dsimp only at h
          refine x_callV F (As := [.int v1, .int v2, .int v3]) (rest := []) (res := (some (.int x47))) (ci := 11) (q := (RX11, TX11, 45)) rfl (by decide) k47 (k_X11_whyWrite l b D cy N v0 v1 v2 v3 M35 _ _ c47) wl_1074 wl_1075 wl_1076 wl_854 wl_1070 hd_X11_whyWrite ⟨Nat.le_of_ble_eq_true rfl, Nat.le_of_ble_eq_true rfl⟩ ⟨Nat.le_refl _, Nat.le_refl _⟩ (Nat.le_of_ble_eq_true rfl) rfl dX11_write_47 ?_
          refine x_istore F (lv' := [(5, .int x47), (0, .ref (b + v0)), (1, .int v1), (2, .int v2), (3, .int v3), (4, .int v4)]) dX11_write_50 (by decide) rfl ?_
          refine x_iload F dX11_write_52 0 rfl ?_
          refine x_if_eq F (tgt := 60) dX11_write_54 (by decide) (fun c54 => ?_) (fun c54 => ?_)
          · rw [if_pos c54] at h
            refine x_aload_n F dX11_write_60 rfl 1 rfl ?_
            obtain ⟨k61, h⟩ := gdS h
            obtain ⟨⟨u61, M61⟩, c61, h⟩ := bdS h
            dsimp only at h
            refine x_callV F (As := []) (rest := []) (res := none) (ci := 11) (q := (RX11, TX11, 45)) rfl (by decide) k61 (k_X11_snap l b D cy N v0 M47 _ _ c61) wl_1077 wl_1078 wl_1079 wl_854 wl_1069 hd_X11_snap ⟨Nat.le_of_ble_eq_true rfl, Nat.le_of_ble_eq_true rfl⟩ ⟨Nat.le_refl _, Nat.le_refl _⟩ (Nat.le_of_ble_eq_true rfl) rfl dX11_write_61 ?_
            refine x_aload_n F dX11_write_64 rfl 1 rfl ?_
            refine x_iload_n F dX11_write_65 rfl 2 rfl ?_
            refine x_iload_n F dX11_write_66 rfl 3 rfl ?_
            refine x_iload_n F dX11_write_67 rfl 4 rfl ?_
            refine x_iload F dX11_write_68 5 rfl ?_
            obtain ⟨k70, h⟩ := gdS h
            obtain ⟨⟨u70, M70⟩, c70, h⟩ := bdS h
            dsimp only at h
            refine x_callV F (As := [.int v1, .int v2, .int v3, .int v4]) (rest := []) (res := none) (ci := 11) (q := (RX11, TX11, 45)) rfl (by decide) k70 (k_X11_doWrite l b D cy N v0 v1 v2 v3 v4 M61 _ _ c70) wl_1080 wl_1081 wl_1082 wl_854 wl_1071 hd_X11_doWrite ⟨Nat.le_of_ble_eq_true rfl, Nat.le_of_ble_eq_true rfl⟩ ⟨Nat.le_refl _, Nat.le_refl _⟩ (Nat.le_of_ble_eq_true rfl) rfl dX11_write_70 ?_
            refine x_iconst F (v := 0) dX11_write_73 (by decide) ?_
            obtain ⟨rfl, rfl⟩ := retS h
            exact x_iret F hr hl dX11_write_74
          · rw [if_neg c54] at h
            refine x_iload F dX11_write_57 0 rfl ?_
            obtain ⟨rfl, rfl⟩ := retS h
            exact x_iret F hr hl dX11_write_59
        · rw [if_pos c38] at h
          refine x_iconst F (v := (-1)) dX11_write_41 (by decide) ?_
          obtain ⟨rfl, rfl⟩ := retS h
          exact x_iret F hr hl dX11_write_42
theorem hd_X11_whyTread : (yX11_whyTread).cls = RX11 ∧ (yX11_whyTread).cls ≠ "java/lang/invoke/MethodHandle" ∧ (yX11_whyTread).cls ≠ "java/lang/invoke/VarHandle" ∧ (parseMethodDescriptor (yX11_whyTread).desc).map (fun d => d.parameters.length) = some 2 := by decide +kernel
theorem hd_X11_doTread : (yX11_doTread).cls = RX11 ∧ (yX11_doTread).cls ≠ "java/lang/invoke/MethodHandle" ∧ (yX11_doTread).cls ≠ "java/lang/invoke/VarHandle" ∧ (parseMethodDescriptor (yX11_doTread).desc).map (fun d => d.parameters.length) = some 2 := by decide +kernel
theorem dX11_tread_0 : decode cX11_tread 0 = .ok (.aload_n 0, 1) := by decide +kernel
theorem dX11_tread_1 : decode cX11_tread 1 = .ok (.iconst 0, 1) := by decide +kernel
theorem dX11_tread_2 : decode cX11_tread 2 = .ok (.putfield 1, 3) := by decide +kernel
theorem dX11_tread_5 : decode cX11_tread 5 = .ok (.aload_n 0, 1) := by decide +kernel
theorem dX11_tread_6 : decode cX11_tread 6 = .ok (.iload_n 1, 1) := by decide +kernel
theorem dX11_tread_7 : decode cX11_tread 7 = .ok (.invokevirtual 246, 3) := by decide +kernel
theorem dX11_tread_10 : decode cX11_tread 10 = .ok (.ifCond .eq 12, 3) := by decide +kernel
theorem dX11_tread_13 : decode cX11_tread 13 = .ok (.aload_n 0, 1) := by decide +kernel
theorem dX11_tread_14 : decode cX11_tread 14 = .ok (.iload_n 1, 1) := by decide +kernel
theorem dX11_tread_15 : decode cX11_tread 15 = .ok (.iload_n 2, 1) := by decide +kernel
theorem dX11_tread_16 : decode cX11_tread 16 = .ok (.invokevirtual 255, 3) := by decide +kernel
theorem dX11_tread_19 : decode cX11_tread 19 = .ok (.ifCond .ne 5, 3) := by decide +kernel
theorem dX11_tread_22 : decode cX11_tread 22 = .ok (.iconst (-1), 1) := by decide +kernel
theorem dX11_tread_23 : decode cX11_tread 23 = .ok (.ireturn, 1) := by decide +kernel
theorem dX11_tread_24 : decode cX11_tread 24 = .ok (.aload_n 0, 1) := by decide +kernel
theorem dX11_tread_25 : decode cX11_tread 25 = .ok (.iload_n 1, 1) := by decide +kernel
theorem dX11_tread_26 : decode cX11_tread 26 = .ok (.iload_n 2, 1) := by decide +kernel
theorem dX11_tread_27 : decode cX11_tread 27 = .ok (.invokevirtual 280, 3) := by decide +kernel
theorem dX11_tread_30 : decode cX11_tread 30 = .ok (.istore_n 3, 1) := by decide +kernel
theorem dX11_tread_31 : decode cX11_tread 31 = .ok (.iload_n 3, 1) := by decide +kernel
theorem dX11_tread_32 : decode cX11_tread 32 = .ok (.ifCond .eq 5, 3) := by decide +kernel
theorem dX11_tread_35 : decode cX11_tread 35 = .ok (.iload_n 3, 1) := by decide +kernel
theorem dX11_tread_36 : decode cX11_tread 36 = .ok (.ireturn, 1) := by decide +kernel
theorem dX11_tread_37 : decode cX11_tread 37 = .ok (.aload_n 0, 1) := by decide +kernel
theorem dX11_tread_38 : decode cX11_tread 38 = .ok (.invokevirtual 273, 3) := by decide +kernel
theorem dX11_tread_41 : decode cX11_tread 41 = .ok (.aload_n 0, 1) := by decide +kernel
theorem dX11_tread_42 : decode cX11_tread 42 = .ok (.iload_n 1, 1) := by decide +kernel
theorem dX11_tread_43 : decode cX11_tread 43 = .ok (.iload_n 2, 1) := by decide +kernel
theorem dX11_tread_44 : decode cX11_tread 44 = .ok (.invokevirtual 283, 3) := by decide +kernel
theorem dX11_tread_47 : decode cX11_tread 47 = .ok (.iconst 0, 1) := by decide +kernel
theorem dX11_tread_48 : decode cX11_tread 48 = .ok (.ireturn, 1) := by decide +kernel
def fX11_tread (N : Nat) (v0 : Nat) (v1 : Int32) (v2 : Int32) (M : Mem) : Option (Int32 × Mem) := ((pI M 11 v0 0 0).bind fun M2 => (if mK M2 v0 = 12 then ((fX11_isBand N v0 v1 M2).bind fun (x7, M7) => (if x7 = 0 then some ((-1), M7) else (if mK M7 v0 = 12 then ((fX11_isPlace N v0 v1 v2 M7).bind fun (x16, M16) => (if x16 = 0 then some ((-1), M16) else (if mK M16 v0 = 12 then ((fX11_whyTread N v0 v1 v2 M16).bind fun (x27, M27) => (if x27 = 0 then (if mK M27 v0 = 12 then ((fX11_snap N v0 M27).bind fun (u38, M38) => (if mK M38 v0 = 12 then ((fX11_doTread N v0 v1 v2 M38).bind fun (u44, M44) => some (0, M44)) else none)) else none) else some (x27, M27))) else none))) else none))) else none))
set_option maxHeartbeats 4000000 in
set_option maxRecDepth 100000 in
theorem k_X11_tread (l : Launch) (b : Nat) (D : va_G) (cy : Nat → ClassId) (N : Nat) (v0 : Nat) (v1 : Int32) (v2 : Int32) (M : Mem) (r : Int32) (Mf : Mem) (h : fX11_tread N v0 v1 v2 M = some (r, Mf)) : Ct l yX11_tread cX11_tread 4 (some .int) 3 0 0 b D cy [.ref (b + v0), .int v1, .int v2] M (some (.int r)) Mf := by
  refine Ct_of (own := RX11) (by decide) rfl (Nat.le_of_ble_eq_true rfl) ?_
  intro p e s m args below meth c F hr hl hmn
  unfold fX11_tread at h
  show X p l e ({ frames := 3, cells := 0, slots := 0, locals := 100 * 3 }) s m args below meth c (MQ below (Qm b D cy (some (.int r)) Mf) args s 0 0 (fun q => b ≤ q)) 4 b D cy 0 0 M 0 [(0, .ref (b + v0)), (1, .int v1), (2, .int v2)] []
  refine x_aload_n F dX11_tread_0 rfl 0 rfl ?_
  refine x_iconst F (v := 0) dX11_tread_1 (by decide) ?_
  obtain ⟨M2, c2, h⟩ := bdS h
  refine x_putI F (ci := 11) (C := RX11) (T := TX11) (N := 45) rfl ⟨by decide, rfl⟩ inU11 tyX11_ok nmX11 0 (by decide) rfl rfl wl_845 c2 dX11_tread_2 ?_
  refine x_aload_n F dX11_tread_5 rfl 0 rfl ?_
  refine x_iload_n F dX11_tread_6 rfl 1 rfl ?_
  obtain ⟨k7, h⟩ := gdS h
  obtain ⟨⟨x7, M7⟩, c7, h⟩ := bdS h
  dsimp only at h
  refine x_callV F (As := [.int v1]) (rest := []) (res := (some (.int x7))) (ci := 11) (q := (RX11, TX11, 45)) rfl (by decide) k7 (k_X11_isBand l b D cy N v0 v1 M2 _ _ c7) wl_1039 wl_1040 wl_1041 wl_854 wl_998 hd_X11_isBand ⟨Nat.le_of_ble_eq_true rfl, Nat.le_of_ble_eq_true rfl⟩ ⟨Nat.le_refl _, Nat.le_refl _⟩ (Nat.le_of_ble_eq_true rfl) rfl dX11_tread_7 ?_
  refine x_if_eq F (tgt := 22) dX11_tread_10 (by decide) (fun c10 => ?_) (fun c10 => ?_)
  · rw [if_pos c10] at h
    refine x_iconst F (v := (-1)) dX11_tread_22 (by decide) ?_
    obtain ⟨rfl, rfl⟩ := retS h
    exact x_iret F hr hl dX11_tread_23
  · rw [if_neg c10] at h
    refine x_aload_n F dX11_tread_13 rfl 0 rfl ?_
    refine x_iload_n F dX11_tread_14 rfl 1 rfl ?_
    refine x_iload_n F dX11_tread_15 rfl 2 rfl ?_
    obtain ⟨k16, h⟩ := gdS h
    obtain ⟨⟨x16, M16⟩, c16, h⟩ := bdS h
    dsimp only at h
    refine x_callV F (As := [.int v1, .int v2]) (rest := []) (res := (some (.int x16))) (ci := 11) (q := (RX11, TX11, 45)) rfl (by decide) k16 (k_X11_isPlace l b D cy N v0 v1 v2 M7 _ _ c16) wl_1050 wl_1051 wl_1052 wl_854 wl_1001 hd_X11_isPlace ⟨Nat.le_of_ble_eq_true rfl, Nat.le_of_ble_eq_true rfl⟩ ⟨Nat.le_refl _, Nat.le_refl _⟩ (Nat.le_of_ble_eq_true rfl) rfl dX11_tread_16 ?_
    refine x_if_ne F (tgt := 24) dX11_tread_19 (by decide) (fun c19 => ?_) (fun c19 => ?_)
    · rw [if_neg c19] at h
      refine x_aload_n F dX11_tread_24 rfl 0 rfl ?_
      refine x_iload_n F dX11_tread_25 rfl 1 rfl ?_
      refine x_iload_n F dX11_tread_26 rfl 2 rfl ?_
      obtain ⟨k27, h⟩ := gdS h
      obtain ⟨⟨x27, M27⟩, c27, h⟩ := bdS h
      dsimp only at h
      refine x_callV F (As := [.int v1, .int v2]) (rest := []) (res := (some (.int x27))) (ci := 11) (q := (RX11, TX11, 45)) rfl (by decide) k27 (k_X11_whyTread l b D cy N v0 v1 v2 M16 _ _ c27) wl_1084 wl_1085 wl_1086 wl_854 wl_1072 hd_X11_whyTread ⟨Nat.le_of_ble_eq_true rfl, Nat.le_of_ble_eq_true rfl⟩ ⟨Nat.le_refl _, Nat.le_refl _⟩ (Nat.le_of_ble_eq_true rfl) rfl dX11_tread_27 ?_
      refine x_istore_n F (lv' := [(3, .int x27), (0, .ref (b + v0)), (1, .int v1), (2, .int v2)]) dX11_tread_30 rfl (by decide) rfl ?_
      refine x_iload_n F dX11_tread_31 rfl 0 rfl ?_
      refine x_if_eq F (tgt := 37) dX11_tread_32 (by decide) (fun c32 => ?_) (fun c32 => ?_)
      · rw [if_pos c32] at h
        refine x_aload_n F dX11_tread_37 rfl 1 rfl ?_
        obtain ⟨k38, h⟩ := gdS h
        obtain ⟨⟨u38, M38⟩, c38, h⟩ := bdS h
        dsimp only at h
        refine x_callV F (As := []) (rest := []) (res := none) (ci := 11) (q := (RX11, TX11, 45)) rfl (by decide) k38 (k_X11_snap l b D cy N v0 M27 _ _ c38) wl_1077 wl_1078 wl_1079 wl_854 wl_1069 hd_X11_snap ⟨Nat.le_of_ble_eq_true rfl, Nat.le_of_ble_eq_true rfl⟩ ⟨Nat.le_refl _, Nat.le_refl _⟩ (Nat.le_of_ble_eq_true rfl) rfl dX11_tread_38 ?_
        refine x_aload_n F dX11_tread_41 rfl 1 rfl ?_
        refine x_iload_n F dX11_tread_42 rfl 2 rfl ?_
        refine x_iload_n F dX11_tread_43 rfl 3 rfl ?_
        obtain ⟨k44, h⟩ := gdS h
        obtain ⟨⟨u44, M44⟩, c44, h⟩ := bdS h
        dsimp only at h
        refine x_callV F (As := [.int v1, .int v2]) (rest := []) (res := none) (ci := 11) (q := (RX11, TX11, 45)) rfl (by decide) k44 (k_X11_doTread l b D cy N v0 v1 v2 M38 _ _ c44) wl_1087 wl_1088 wl_1089 wl_854 wl_1073 hd_X11_doTread ⟨Nat.le_of_ble_eq_true rfl, Nat.le_of_ble_eq_true rfl⟩ ⟨Nat.le_refl _, Nat.le_refl _⟩ (Nat.le_of_ble_eq_true rfl) rfl dX11_tread_44 ?_
        refine x_iconst F (v := 0) dX11_tread_47 (by decide) ?_
        obtain ⟨rfl, rfl⟩ := retS h
        exact x_iret F hr hl dX11_tread_48
      · rw [if_neg c32] at h
        refine x_iload_n F dX11_tread_35 rfl 0 rfl ?_
        obtain ⟨rfl, rfl⟩ := retS h
        exact x_iret F hr hl dX11_tread_36
    · rw [if_pos c19] at h
      refine x_iconst F (v := (-1)) dX11_tread_22 (by decide) ?_
      obtain ⟨rfl, rfl⟩ := retS h
      exact x_iret F hr hl dX11_tread_23
theorem dX11_undo_0 : decode cX11_undo 0 = .ok (.aload_n 0, 1) := by decide +kernel
theorem dX11_undo_1 : decode cX11_undo 1 = .ok (.iconst 0, 1) := by decide +kernel
theorem dX11_undo_2 : decode cX11_undo 2 = .ok (.putfield 1, 3) := by decide +kernel
theorem dX11_undo_5 : decode cX11_undo 5 = .ok (.aload_n 0, 1) := by decide +kernel
theorem dX11_undo_6 : decode cX11_undo 6 = .ok (.getfield 213, 3) := by decide +kernel
theorem dX11_undo_9 : decode cX11_undo 9 = .ok (.ifCond .ne 5, 3) := by decide +kernel
theorem dX11_undo_12 : decode cX11_undo 12 = .ok (.iconst (-1), 1) := by decide +kernel
theorem dX11_undo_13 : decode cX11_undo 13 = .ok (.ireturn, 1) := by decide +kernel
theorem dX11_undo_14 : decode cX11_undo 14 = .ok (.aload_n 0, 1) := by decide +kernel
theorem dX11_undo_15 : decode cX11_undo 15 = .ok (.dup, 1) := by decide +kernel
theorem dX11_undo_16 : decode cX11_undo 16 = .ok (.getfield 213, 3) := by decide +kernel
theorem dX11_undo_19 : decode cX11_undo 19 = .ok (.iconst 1, 1) := by decide +kernel
theorem dX11_undo_20 : decode cX11_undo 20 = .ok (.isub, 1) := by decide +kernel
theorem dX11_undo_21 : decode cX11_undo 21 = .ok (.putfield 213, 3) := by decide +kernel
theorem dX11_undo_24 : decode cX11_undo 24 = .ok (.iconst 0, 1) := by decide +kernel
theorem dX11_undo_25 : decode cX11_undo 25 = .ok (.istore_n 1, 1) := by decide +kernel
theorem dX11_undo_26 : decode cX11_undo 26 = .ok (.iload_n 1, 1) := by decide +kernel
theorem dX11_undo_27 : decode cX11_undo 27 = .ok (.sipush 164, 3) := by decide +kernel
theorem dX11_undo_30 : decode cX11_undo 30 = .ok (.if_icmp .ge 33, 3) := by decide +kernel
theorem dX11_undo_33 : decode cX11_undo 33 = .ok (.aload_n 0, 1) := by decide +kernel
theorem dX11_undo_34 : decode cX11_undo 34 = .ok (.getfield 98, 3) := by decide +kernel
theorem dX11_undo_37 : decode cX11_undo 37 = .ok (.bipush 35, 2) := by decide +kernel
theorem dX11_undo_39 : decode cX11_undo 39 = .ok (.iload_n 1, 1) := by decide +kernel
theorem dX11_undo_40 : decode cX11_undo 40 = .ok (.iadd, 1) := by decide +kernel
theorem dX11_undo_41 : decode cX11_undo 41 = .ok (.aload_n 0, 1) := by decide +kernel
theorem dX11_undo_42 : decode cX11_undo 42 = .ok (.getfield 107, 3) := by decide +kernel
theorem dX11_undo_45 : decode cX11_undo 45 = .ok (.sipush 164, 3) := by decide +kernel
theorem dX11_undo_48 : decode cX11_undo 48 = .ok (.aload_n 0, 1) := by decide +kernel
theorem dX11_undo_49 : decode cX11_undo 49 = .ok (.getfield 213, 3) := by decide +kernel
theorem dX11_undo_52 : decode cX11_undo 52 = .ok (.imul, 1) := by decide +kernel
theorem dX11_undo_53 : decode cX11_undo 53 = .ok (.iload_n 1, 1) := by decide +kernel
theorem dX11_undo_54 : decode cX11_undo 54 = .ok (.iadd, 1) := by decide +kernel
theorem dX11_undo_55 : decode cX11_undo 55 = .ok (.iaload, 1) := by decide +kernel
theorem dX11_undo_56 : decode cX11_undo 56 = .ok (.iastore, 1) := by decide +kernel
theorem dX11_undo_57 : decode cX11_undo 57 = .ok (.iinc 1 1, 3) := by decide +kernel
theorem dX11_undo_60 : decode cX11_undo 60 = .ok (.goto (-34), 3) := by decide +kernel
theorem dX11_undo_63 : decode cX11_undo 63 = .ok (.aload_n 0, 1) := by decide +kernel
theorem dX11_undo_64 : decode cX11_undo 64 = .ok (.getfield 213, 3) := by decide +kernel
theorem dX11_undo_67 : decode cX11_undo 67 = .ok (.ireturn, 1) := by decide +kernel
def fX11_undo_L26 (N : Nat) (v0 : Nat) : Nat → Int32 → Mem → Option (Int32 × Mem)
  | 0, _, _ => none
  | n + 1, v1, M => (if 164 ≤ v1 then ((fI M 11 v0 24).bind fun x64 => some (x64, M)) else ((fR M 11 v0 14).bind fun x34 => ((fR M 11 v0 17).bind fun x42 => ((fI M 11 v0 24).bind fun x49 => ((aI M x42 ((164 * x49) + v1)).bind fun x55 => ((tI M x34 (35 + v1) x55).bind fun M56 => fX11_undo_L26 N v0 n (v1 + 1) M56))))))
def fX11_undo (N : Nat) (v0 : Nat) (M : Mem) : Option (Int32 × Mem) := ((pI M 11 v0 0 0).bind fun M2 => ((fI M2 11 v0 24).bind fun x6 => (if x6 = 0 then some ((-1), M2) else ((fI M2 11 v0 24).bind fun x16 => ((pI M2 11 v0 24 (x16 - 1)).bind fun M21 => ((fX11_undo_L26 N v0 N 0 M21).bind fun o26 => some o26))))))
set_option maxHeartbeats 4000000 in
set_option maxRecDepth 100000 in
theorem k_X11_undo (l : Launch) (b : Nat) (D : va_G) (cy : Nat → ClassId) (N : Nat) (v0 : Nat) (M : Mem) (r : Int32) (Mf : Mem) (h : fX11_undo N v0 M = some (r, Mf)) : Ct l yX11_undo cX11_undo 2 (some .int) 1 0 0 b D cy [.ref (b + v0)] M (some (.int r)) Mf := by
  refine Ct_of (own := RX11) (by decide) rfl (Nat.le_of_ble_eq_true rfl) ?_
  intro p e s m args below meth c F hr hl hmn
  unfold fX11_undo at h
  show X p l e ({ frames := 1, cells := 0, slots := 0, locals := 100 * 1 }) s m args below meth c (MQ below (Qm b D cy (some (.int r)) Mf) args s 0 0 (fun q => b ≤ q)) 2 b D cy 0 0 M 0 [(0, .ref (b + v0))] []
  refine x_aload_n F dX11_undo_0 rfl 0 rfl ?_
  refine x_iconst F (v := 0) dX11_undo_1 (by decide) ?_
  obtain ⟨M2, c2, h⟩ := bdS h
  refine x_putI F (ci := 11) (C := RX11) (T := TX11) (N := 45) rfl ⟨by decide, rfl⟩ inU11 tyX11_ok nmX11 0 (by decide) rfl rfl wl_845 c2 dX11_undo_2 ?_
  refine x_aload_n F dX11_undo_5 rfl 0 rfl ?_
  obtain ⟨x6, c6, h⟩ := bdS h
  refine x_getI F (ci := 11) (C := RX11) (T := TX11) (N := 45) rfl ⟨by decide, rfl⟩ inU11 24 (by decide) (fun _ _ _ => rfl) wl_986 c6 dX11_undo_6 ?_
  refine x_if_ne F (tgt := 14) dX11_undo_9 (by decide) (fun c9 => ?_) (fun c9 => ?_)
  · rw [if_neg c9] at h
    refine x_aload_n F dX11_undo_14 rfl 0 rfl ?_
    refine x_dup F dX11_undo_15 rfl ?_
    obtain ⟨x16, c16, h⟩ := bdS h
    refine x_getI F (ci := 11) (C := RX11) (T := TX11) (N := 45) rfl ⟨by decide, rfl⟩ inU11 24 (by decide) (fun _ _ _ => rfl) wl_986 c16 dX11_undo_16 ?_
    refine x_iconst F (v := 1) dX11_undo_19 (by decide) ?_
    refine x_isub F dX11_undo_20 ?_
    obtain ⟨M21, c21, h⟩ := bdS h
    refine x_putI F (ci := 11) (C := RX11) (T := TX11) (N := 45) rfl ⟨by decide, rfl⟩ inU11 tyX11_ok nmX11 24 (by decide) rfl rfl wl_986 c21 dX11_undo_21 ?_
    refine x_iconst F (v := 0) dX11_undo_24 (by decide) ?_
    refine x_istore_n F (lv' := [(1, .int 0), (0, .ref (b + v0))]) dX11_undo_25 rfl (by decide) rfl ?_
    have L26 : ∀ (v0 : Nat) (n : Nat) (v1 : Int32) (M : Mem) (o : Int32 × Mem), fX11_undo_L26 N v0 n v1 M = some o → (∀ (r' : Int32) (M' : Mem), o = (r', M') → r' = r ∧ M' = Mf) → X p l e ({ frames := 1, cells := 0, slots := 0, locals := 100 * 1 }) s m args below meth c (MQ below (Qm b D cy (some (.int r)) Mf) args s 0 0 (fun q => b ≤ q)) 2 b D cy 0 0 M 26 [(0, .ref (b + v0)), (1, .int v1)] [] := by
      intro v0 n
      induction n with
      | zero => intro v1 M o h; exact absurd h (by rw [fX11_undo_L26]; exact fun z => by cases z)
      | succ n ih =>
        intro v1 M o h hR
        rw [fX11_undo_L26] at h
        refine x_iload_n F dX11_undo_26 rfl 1 rfl ?_
        refine x_sipush F (v := 164) dX11_undo_27 (by decide) ?_
        refine x_icmp_ge F (tgt := 63) dX11_undo_30 (by decide) (fun c30 => ?_) (fun c30 => ?_)
        · rw [if_pos c30] at h
          refine x_aload_n F dX11_undo_63 rfl 0 rfl ?_
          obtain ⟨x64, c64, h⟩ := bdS h
          refine x_getI F (ci := 11) (C := RX11) (T := TX11) (N := 45) rfl ⟨by decide, rfl⟩ inU11 24 (by decide) (fun _ _ _ => rfl) wl_986 c64 dX11_undo_64 ?_
          obtain rfl := Option.some.inj h
          obtain ⟨rfl, rfl⟩ := hR _ _ rfl
          exact x_iret F hr hl dX11_undo_67
        · rw [if_neg c30] at h
          refine x_aload_n F dX11_undo_33 rfl 0 rfl ?_
          obtain ⟨x34, c34, h⟩ := bdS h
          refine x_getR F (ci := 11) (C := RX11) (T := TX11) (N := 45) rfl ⟨by decide, rfl⟩ inU11 14 (by decide) (fun _ _ _ => rfl) wl_913 c34 dX11_undo_34 ?_
          refine x_bipush F (v := 35) dX11_undo_37 (by decide) ?_
          refine x_iload_n F dX11_undo_39 rfl 1 rfl ?_
          refine x_iadd F dX11_undo_40 ?_
          refine x_aload_n F dX11_undo_41 rfl 0 rfl ?_
          obtain ⟨x42, c42, h⟩ := bdS h
          refine x_getR F (ci := 11) (C := RX11) (T := TX11) (N := 45) rfl ⟨by decide, rfl⟩ inU11 17 (by decide) (fun _ _ _ => rfl) wl_917 c42 dX11_undo_42 ?_
          refine x_sipush F (v := 164) dX11_undo_45 (by decide) ?_
          refine x_aload_n F dX11_undo_48 rfl 0 rfl ?_
          obtain ⟨x49, c49, h⟩ := bdS h
          refine x_getI F (ci := 11) (C := RX11) (T := TX11) (N := 45) rfl ⟨by decide, rfl⟩ inU11 24 (by decide) (fun _ _ _ => rfl) wl_986 c49 dX11_undo_49 ?_
          refine x_imul F dX11_undo_52 ?_
          refine x_iload_n F dX11_undo_53 rfl 1 rfl ?_
          refine x_iadd F dX11_undo_54 ?_
          obtain ⟨x55, c55, h⟩ := bdS h
          refine x_aI F c55 dX11_undo_55 ?_
          obtain ⟨M56, c56, h⟩ := bdS h
          refine x_tI F c56 dX11_undo_56 ?_
          refine x_iinc F (v := v1 + 1) (lv' := [(1, .int (v1 + 1)), (0, .ref (b + v0))]) dX11_undo_57 1 rfl rfl (by decide) rfl ?_
          refine x_goto F (tgt := 26) dX11_undo_60 (by decide) ?_
          refine x_sub [1, 0] rfl ?_
          exact ih (v1 + 1) M56 o h hR
    obtain ⟨o26, h26, h⟩ := bdS h
    refine x_sub [1, 0] rfl ?_
    refine L26 v0 N 0 M21 o26 h26 (fun r' M' e => ?_)
    · subst e
      try dsimp only at h
      obtain ⟨rfl, rfl⟩ := retS h; exact ⟨rfl, rfl⟩
  · rw [if_pos c9] at h
    refine x_iconst F (v := (-1)) dX11_undo_12 (by decide) ?_
    obtain ⟨rfl, rfl⟩ := retS h
    exact x_iret F hr hl dX11_undo_13
theorem dX11_wash_0 : decode cX11_wash 0 = .ok (.iconst 0, 1) := by decide +kernel
theorem dX11_wash_1 : decode cX11_wash 1 = .ok (.istore_n 2, 1) := by decide +kernel
theorem dX11_wash_2 : decode cX11_wash 2 = .ok (.iload_n 2, 1) := by decide +kernel
theorem dX11_wash_3 : decode cX11_wash 3 = .ok (.bipush 12, 2) := by decide +kernel
theorem dX11_wash_5 : decode cX11_wash 5 = .ok (.if_icmp .ge 15, 3) := by decide +kernel
theorem dX11_wash_8 : decode cX11_wash 8 = .ok (.aload_n 0, 1) := by decide +kernel
theorem dX11_wash_9 : decode cX11_wash 9 = .ok (.iload_n 1, 1) := by decide +kernel
theorem dX11_wash_10 : decode cX11_wash 10 = .ok (.iload_n 2, 1) := by decide +kernel
theorem dX11_wash_11 : decode cX11_wash 11 = .ok (.invokevirtual 283, 3) := by decide +kernel
theorem dX11_wash_14 : decode cX11_wash 14 = .ok (.iinc 2 1, 3) := by decide +kernel
theorem dX11_wash_17 : decode cX11_wash 17 = .ok (.goto (-15), 3) := by decide +kernel
theorem dX11_wash_20 : decode cX11_wash 20 = .ok (.aload_n 0, 1) := by decide +kernel
theorem dX11_wash_21 : decode cX11_wash 21 = .ok (.getfield 98, 3) := by decide +kernel
theorem dX11_wash_24 : decode cX11_wash 24 = .ok (.bipush 49, 2) := by decide +kernel
theorem dX11_wash_26 : decode cX11_wash 26 = .ok (.iload_n 1, 1) := by decide +kernel
theorem dX11_wash_27 : decode cX11_wash 27 = .ok (.iadd, 1) := by decide +kernel
theorem dX11_wash_28 : decode cX11_wash 28 = .ok (.dup2, 1) := by decide +kernel
theorem dX11_wash_29 : decode cX11_wash 29 = .ok (.iaload, 1) := by decide +kernel
theorem dX11_wash_30 : decode cX11_wash 30 = .ok (.iconst 1, 1) := by decide +kernel
theorem dX11_wash_31 : decode cX11_wash 31 = .ok (.iadd, 1) := by decide +kernel
theorem dX11_wash_32 : decode cX11_wash 32 = .ok (.iastore, 1) := by decide +kernel
theorem dX11_wash_33 : decode cX11_wash 33 = .ok (.return_, 1) := by decide +kernel
def fX11_wash_L2 (N : Nat) (v0 : Nat) (v1 : Int32) : Nat → Int32 → Mem → Option (Mem)
  | 0, _, _ => none
  | n + 1, v2, M => (if 12 ≤ v2 then some M else (if mK M v0 = 12 then ((fX11_doTread N v0 v1 v2 M).bind fun (u11, M11) => fX11_wash_L2 N v0 v1 n (v2 + 1) M11) else none))
def fX11_wash (N : Nat) (v0 : Nat) (v1 : Int32) (M : Mem) : Option (Unit × Mem) := ((fX11_wash_L2 N v0 v1 N 0 M).bind fun o2 => ((fR o2 11 v0 14).bind fun x21 => ((aI o2 x21 (49 + v1)).bind fun x29 => ((tI o2 x21 (49 + v1) (x29 + 1)).bind fun M32 => some ((), M32)))))
set_option maxHeartbeats 4000000 in
set_option maxRecDepth 100000 in
theorem k_X11_wash (l : Launch) (b : Nat) (D : va_G) (cy : Nat → ClassId) (N : Nat) (v0 : Nat) (v1 : Int32) (M : Mem) (r : Unit) (Mf : Mem) (h : fX11_wash N v0 v1 M = some (r, Mf)) : Ct l yX11_wash cX11_wash 3 none 2 0 0 b D cy [.ref (b + v0), .int v1] M none Mf := by
  refine Ct_of (own := RX11) (by decide) rfl (Nat.le_of_ble_eq_true rfl) ?_
  intro p e s m args below meth c F hr hl hmn
  unfold fX11_wash at h
  show X p l e ({ frames := 2, cells := 0, slots := 0, locals := 100 * 2 }) s m args below meth c (MQ below (Qm b D cy none Mf) args s 0 0 (fun q => b ≤ q)) 3 b D cy 0 0 M 0 [(0, .ref (b + v0)), (1, .int v1)] []
  refine x_iconst F (v := 0) dX11_wash_0 (by decide) ?_
  refine x_istore_n F (lv' := [(2, .int 0), (0, .ref (b + v0)), (1, .int v1)]) dX11_wash_1 rfl (by decide) rfl ?_
  have L2 : ∀ (v0 : Nat) (v1 : Int32) (n : Nat) (v2 : Int32) (M : Mem) (o : Mem), fX11_wash_L2 N v0 v1 n v2 M = some o → X p l e ({ frames := 2, cells := 0, slots := 0, locals := 100 * 2 }) s m args below meth c (MQ below (Qm b D cy none Mf) args s 0 0 (fun q => b ≤ q)) 3 b D cy 0 0 o 20 [(0, .ref (b + v0)), (1, .int v1)] [] → X p l e ({ frames := 2, cells := 0, slots := 0, locals := 100 * 2 }) s m args below meth c (MQ below (Qm b D cy none Mf) args s 0 0 (fun q => b ≤ q)) 3 b D cy 0 0 M 2 [(0, .ref (b + v0)), (1, .int v1), (2, .int v2)] [] := by
    intro v0 v1 n
    induction n with
    | zero => intro v2 M o h; exact absurd h (by rw [fX11_wash_L2]; exact fun z => by cases z)
    | succ n ih =>
      intro v2 M o h hE
      rw [fX11_wash_L2] at h
      refine x_iload_n F dX11_wash_2 rfl 2 rfl ?_
      refine x_bipush F (v := 12) dX11_wash_3 (by decide) ?_
      refine x_icmp_ge F (tgt := 20) dX11_wash_5 (by decide) (fun c5 => ?_) (fun c5 => ?_)
      · rw [if_pos c5] at h
        obtain rfl := Option.some.inj h
        refine x_sub [0, 1] rfl ?_
        exact hE
      · rw [if_neg c5] at h
        refine x_aload_n F dX11_wash_8 rfl 0 rfl ?_
        refine x_iload_n F dX11_wash_9 rfl 1 rfl ?_
        refine x_iload_n F dX11_wash_10 rfl 2 rfl ?_
        obtain ⟨k11, h⟩ := gdS h
        obtain ⟨⟨u11, M11⟩, c11, h⟩ := bdS h
        dsimp only at h
        refine x_callV F (As := [.int v1, .int v2]) (rest := []) (res := none) (ci := 11) (q := (RX11, TX11, 45)) rfl (by decide) k11 (k_X11_doTread l b D cy N v0 v1 v2 M _ _ c11) wl_1087 wl_1088 wl_1089 wl_854 wl_1073 hd_X11_doTread ⟨Nat.le_of_ble_eq_true rfl, Nat.le_of_ble_eq_true rfl⟩ ⟨Nat.le_refl _, Nat.le_refl _⟩ (Nat.le_of_ble_eq_true rfl) rfl dX11_wash_11 ?_
        refine x_iinc F (v := v2 + 1) (lv' := [(2, .int (v2 + 1)), (0, .ref (b + v0)), (1, .int v1)]) dX11_wash_14 2 rfl rfl (by decide) rfl ?_
        refine x_goto F (tgt := 2) dX11_wash_17 (by decide) ?_
        refine x_sub [1, 2, 0] rfl ?_
        exact ih (v2 + 1) M11 o h hE
  obtain ⟨o2, h2, h⟩ := bdS h
  refine x_sub [1, 2, 0] rfl ?_
  refine L2 v0 v1 N 0 M o2 h2 ?_
  refine x_aload_n F dX11_wash_20 rfl 0 rfl ?_
  obtain ⟨x21, c21, h⟩ := bdS h
  refine x_getR F (ci := 11) (C := RX11) (T := TX11) (N := 45) rfl ⟨by decide, rfl⟩ inU11 14 (by decide) (fun _ _ _ => rfl) wl_913 c21 dX11_wash_21 ?_
  refine x_bipush F (v := 49) dX11_wash_24 (by decide) ?_
  refine x_iload_n F dX11_wash_26 rfl 1 rfl ?_
  refine x_iadd F dX11_wash_27 ?_
  refine x_dup2 F dX11_wash_28 rfl rfl ?_
  obtain ⟨x29, c29, h⟩ := bdS h
  refine x_aI F c29 dX11_wash_29 ?_
  refine x_iconst F (v := 1) dX11_wash_30 (by decide) ?_
  refine x_iadd F dX11_wash_31 ?_
  obtain ⟨M32, c32, h⟩ := bdS h
  refine x_tI F c32 dX11_wash_32 ?_
  obtain ⟨rfl, rfl⟩ := retS h
  exact x_vret F hr hl dX11_wash_33
theorem dX11_ages_0 : decode cX11_ages 0 = .ok (.aload_n 0, 1) := by decide +kernel
theorem dX11_ages_1 : decode cX11_ages 1 = .ok (.getfield 98, 3) := by decide +kernel
theorem dX11_ages_4 : decode cX11_ages 4 = .ok (.bipush 38, 2) := by decide +kernel
theorem dX11_ages_6 : decode cX11_ages 6 = .ok (.iaload, 1) := by decide +kernel
theorem dX11_ages_7 : decode cX11_ages 7 = .ok (.iload_n 1, 1) := by decide +kernel
theorem dX11_ages_8 : decode cX11_ages 8 = .ok (.invokestatic 261, 3) := by decide +kernel
theorem dX11_ages_11 : decode cX11_ages 11 = .ok (.ifCond .eq 4, 3) := by decide +kernel
theorem dX11_ages_14 : decode cX11_ages 14 = .ok (.return_, 1) := by decide +kernel
theorem dX11_ages_15 : decode cX11_ages 15 = .ok (.aload_n 0, 1) := by decide +kernel
theorem dX11_ages_16 : decode cX11_ages 16 = .ok (.getfield 98, 3) := by decide +kernel
theorem dX11_ages_19 : decode cX11_ages 19 = .ok (.bipush 39, 2) := by decide +kernel
theorem dX11_ages_21 : decode cX11_ages 21 = .ok (.iload_n 1, 1) := by decide +kernel
theorem dX11_ages_22 : decode cX11_ages 22 = .ok (.iadd, 1) := by decide +kernel
theorem dX11_ages_23 : decode cX11_ages 23 = .ok (.aload_n 0, 1) := by decide +kernel
theorem dX11_ages_24 : decode cX11_ages 24 = .ok (.iload_n 1, 1) := by decide +kernel
theorem dX11_ages_25 : decode cX11_ages 25 = .ok (.invokevirtual 264, 3) := by decide +kernel
theorem dX11_ages_28 : decode cX11_ages 28 = .ok (.iconst (-1), 1) := by decide +kernel
theorem dX11_ages_29 : decode cX11_ages 29 = .ok (.if_icmp .eq 7, 3) := by decide +kernel
theorem dX11_ages_32 : decode cX11_ages 32 = .ok (.iconst 0, 1) := by decide +kernel
theorem dX11_ages_33 : decode cX11_ages 33 = .ok (.goto 14, 3) := by decide +kernel
theorem dX11_ages_36 : decode cX11_ages 36 = .ok (.aload_n 0, 1) := by decide +kernel
theorem dX11_ages_37 : decode cX11_ages 37 = .ok (.getfield 98, 3) := by decide +kernel
theorem dX11_ages_40 : decode cX11_ages 40 = .ok (.bipush 39, 2) := by decide +kernel
theorem dX11_ages_42 : decode cX11_ages 42 = .ok (.iload_n 1, 1) := by decide +kernel
theorem dX11_ages_43 : decode cX11_ages 43 = .ok (.iadd, 1) := by decide +kernel
theorem dX11_ages_44 : decode cX11_ages 44 = .ok (.iaload, 1) := by decide +kernel
theorem dX11_ages_45 : decode cX11_ages 45 = .ok (.iconst 1, 1) := by decide +kernel
theorem dX11_ages_46 : decode cX11_ages 46 = .ok (.iadd, 1) := by decide +kernel
theorem dX11_ages_47 : decode cX11_ages 47 = .ok (.iastore, 1) := by decide +kernel
theorem dX11_ages_48 : decode cX11_ages 48 = .ok (.aload_n 0, 1) := by decide +kernel
theorem dX11_ages_49 : decode cX11_ages 49 = .ok (.getfield 98, 3) := by decide +kernel
theorem dX11_ages_52 : decode cX11_ages 52 = .ok (.bipush 39, 2) := by decide +kernel
theorem dX11_ages_54 : decode cX11_ages 54 = .ok (.iload_n 1, 1) := by decide +kernel
theorem dX11_ages_55 : decode cX11_ages 55 = .ok (.iadd, 1) := by decide +kernel
theorem dX11_ages_56 : decode cX11_ages 56 = .ok (.iaload, 1) := by decide +kernel
theorem dX11_ages_57 : decode cX11_ages 57 = .ok (.aload_n 0, 1) := by decide +kernel
theorem dX11_ages_58 : decode cX11_ages 58 = .ok (.getfield 98, 3) := by decide +kernel
theorem dX11_ages_61 : decode cX11_ages 61 = .ok (.iconst 4, 1) := by decide +kernel
theorem dX11_ages_62 : decode cX11_ages 62 = .ok (.iaload, 1) := by decide +kernel
theorem dX11_ages_63 : decode cX11_ages 63 = .ok (.if_icmp .lt 16, 3) := by decide +kernel
theorem dX11_ages_66 : decode cX11_ages 66 = .ok (.aload_n 0, 1) := by decide +kernel
theorem dX11_ages_67 : decode cX11_ages 67 = .ok (.getfield 98, 3) := by decide +kernel
theorem dX11_ages_70 : decode cX11_ages 70 = .ok (.bipush 38, 2) := by decide +kernel
theorem dX11_ages_72 : decode cX11_ages 72 = .ok (.dup2, 1) := by decide +kernel
theorem dX11_ages_73 : decode cX11_ages 73 = .ok (.iaload, 1) := by decide +kernel
theorem dX11_ages_74 : decode cX11_ages 74 = .ok (.iconst 1, 1) := by decide +kernel
theorem dX11_ages_75 : decode cX11_ages 75 = .ok (.iload_n 1, 1) := by decide +kernel
theorem dX11_ages_76 : decode cX11_ages 76 = .ok (.ishl, 1) := by decide +kernel
theorem dX11_ages_77 : decode cX11_ages 77 = .ok (.ior, 1) := by decide +kernel
theorem dX11_ages_78 : decode cX11_ages 78 = .ok (.iastore, 1) := by decide +kernel
theorem dX11_ages_79 : decode cX11_ages 79 = .ok (.return_, 1) := by decide +kernel
def fX11_ages_J47 (N : Nat) (v0 : Nat) (v1 : Int32) (s0 : Int32) (s1 : Int32) (s2 : Nat) (M : Mem) : Option (Unit × Mem) := ((tI M s2 s1 s0).bind fun M47 => ((fR M47 11 v0 14).bind fun x49 => ((aI M47 x49 (39 + v1)).bind fun x56 => ((fR M47 11 v0 14).bind fun x58 => ((aI M47 x58 4).bind fun x62 => (if x56 < x62 then some ((), M47) else ((fR M47 11 v0 14).bind fun x67 => ((aI M47 x67 38).bind fun x73 => ((tI M47 x67 38 (x73 ||| (1 <<< (v1 &&& 31)))).bind fun M78 => some ((), M78))))))))))
def fX11_ages (N : Nat) (v0 : Nat) (v1 : Int32) (M : Mem) : Option (Unit × Mem) := ((fR M 11 v0 14).bind fun x1 => ((aI M x1 38).bind fun x6 => ((fX11_has N x6 v1 M).bind fun (x8, M8) => (if x8 = 0 then ((fR M8 11 v0 14).bind fun x16 => (if mK M8 v0 = 12 then ((fX11_readIn N v0 v1 M8).bind fun (x25, M25) => (if x25 = ((-1)) then ((fR M25 11 v0 14).bind fun x37 => ((aI M25 x37 (39 + v1)).bind fun x44 => fX11_ages_J47 N v0 v1 (x44 + 1) (39 + v1) x16 M25)) else fX11_ages_J47 N v0 v1 0 (39 + v1) x16 M25)) else none)) else some ((), M8)))))
set_option maxHeartbeats 4000000 in
set_option maxRecDepth 100000 in
theorem k_X11_ages (l : Launch) (b : Nat) (D : va_G) (cy : Nat → ClassId) (N : Nat) (v0 : Nat) (v1 : Int32) (M : Mem) (r : Unit) (Mf : Mem) (h : fX11_ages N v0 v1 M = some (r, Mf)) : Ct l yX11_ages cX11_ages 2 none 7 0 0 b D cy [.ref (b + v0), .int v1] M none Mf := by
  refine Ct_of (own := RX11) (by decide) rfl (Nat.le_of_ble_eq_true rfl) ?_
  intro p e s m args below meth c F hr hl hmn
  unfold fX11_ages at h
  have J47 : ∀ (v0 : Nat) (v1 : Int32) (s0 : Int32) (s1 : Int32) (s2 : Nat) (M : Mem), fX11_ages_J47 N v0 v1 s0 s1 s2 M = some (r, Mf) → X p l e ({ frames := 7, cells := 0, slots := 0, locals := 100 * 7 }) s m args below meth c (MQ below (Qm b D cy none Mf) args s 0 0 (fun q => b ≤ q)) 2 b D cy 0 0 M 47 [(0, .ref (b + v0)), (1, .int v1)] [.int s0, .int s1, .ref (b + s2)] := by
    intro v0 v1 s0 s1 s2 M h
    unfold fX11_ages_J47 at h
    obtain ⟨M47, c47, h⟩ := bdS h
    refine x_tI F c47 dX11_ages_47 ?_
    refine x_aload_n F dX11_ages_48 rfl 0 rfl ?_
    obtain ⟨x49, c49, h⟩ := bdS h
    refine x_getR F (ci := 11) (C := RX11) (T := TX11) (N := 45) rfl ⟨by decide, rfl⟩ inU11 14 (by decide) (fun _ _ _ => rfl) wl_913 c49 dX11_ages_49 ?_
    refine x_bipush F (v := 39) dX11_ages_52 (by decide) ?_
    refine x_iload_n F dX11_ages_54 rfl 1 rfl ?_
    refine x_iadd F dX11_ages_55 ?_
    obtain ⟨x56, c56, h⟩ := bdS h
    refine x_aI F c56 dX11_ages_56 ?_
    refine x_aload_n F dX11_ages_57 rfl 0 rfl ?_
    obtain ⟨x58, c58, h⟩ := bdS h
    refine x_getR F (ci := 11) (C := RX11) (T := TX11) (N := 45) rfl ⟨by decide, rfl⟩ inU11 14 (by decide) (fun _ _ _ => rfl) wl_913 c58 dX11_ages_58 ?_
    refine x_iconst F (v := 4) dX11_ages_61 (by decide) ?_
    obtain ⟨x62, c62, h⟩ := bdS h
    refine x_aI F c62 dX11_ages_62 ?_
    refine x_icmp_lt F (tgt := 79) dX11_ages_63 (by decide) (fun c63 => ?_) (fun c63 => ?_)
    · rw [if_pos c63] at h
      obtain ⟨rfl, rfl⟩ := retS h
      exact x_vret F hr hl dX11_ages_79
    · rw [if_neg c63] at h
      refine x_aload_n F dX11_ages_66 rfl 0 rfl ?_
      obtain ⟨x67, c67, h⟩ := bdS h
      refine x_getR F (ci := 11) (C := RX11) (T := TX11) (N := 45) rfl ⟨by decide, rfl⟩ inU11 14 (by decide) (fun _ _ _ => rfl) wl_913 c67 dX11_ages_67 ?_
      refine x_bipush F (v := 38) dX11_ages_70 (by decide) ?_
      refine x_dup2 F dX11_ages_72 rfl rfl ?_
      obtain ⟨x73, c73, h⟩ := bdS h
      refine x_aI F c73 dX11_ages_73 ?_
      refine x_iconst F (v := 1) dX11_ages_74 (by decide) ?_
      refine x_iload_n F dX11_ages_75 rfl 1 rfl ?_
      refine x_ishl F dX11_ages_76 ?_
      refine x_ior F dX11_ages_77 ?_
      obtain ⟨M78, c78, h⟩ := bdS h
      refine x_tI F c78 dX11_ages_78 ?_
      obtain ⟨rfl, rfl⟩ := retS h
      exact x_vret F hr hl dX11_ages_79
  show X p l e ({ frames := 7, cells := 0, slots := 0, locals := 100 * 7 }) s m args below meth c (MQ below (Qm b D cy none Mf) args s 0 0 (fun q => b ≤ q)) 2 b D cy 0 0 M 0 [(0, .ref (b + v0)), (1, .int v1)] []
  refine x_aload_n F dX11_ages_0 rfl 0 rfl ?_
  obtain ⟨x1, c1, h⟩ := bdS h
  refine x_getR F (ci := 11) (C := RX11) (T := TX11) (N := 45) rfl ⟨by decide, rfl⟩ inU11 14 (by decide) (fun _ _ _ => rfl) wl_913 c1 dX11_ages_1 ?_
  refine x_bipush F (v := 38) dX11_ages_4 (by decide) ?_
  obtain ⟨x6, c6, h⟩ := bdS h
  refine x_aI F c6 dX11_ages_6 ?_
  refine x_iload_n F dX11_ages_7 rfl 1 rfl ?_
  obtain ⟨⟨x8, M8⟩, c8, h⟩ := bdS h
  dsimp only at h
  refine x_callS F (As := [.int x6, .int v1]) (rest := []) (res := (some (.int x8))) (k_X11_has l b D cy N x6 v1 M _ _ c8) wl_1057 wl_1058 wl_854 wl_858 (hd_X11_has).2 ⟨Nat.le_of_ble_eq_true rfl, Nat.le_of_ble_eq_true rfl⟩ ⟨Nat.le_refl _, Nat.le_refl _⟩ (Nat.le_of_ble_eq_true rfl) rfl dX11_ages_8 ?_
  refine x_if_eq F (tgt := 15) dX11_ages_11 (by decide) (fun c11 => ?_) (fun c11 => ?_)
  · rw [if_pos c11] at h
    refine x_aload_n F dX11_ages_15 rfl 0 rfl ?_
    obtain ⟨x16, c16, h⟩ := bdS h
    refine x_getR F (ci := 11) (C := RX11) (T := TX11) (N := 45) rfl ⟨by decide, rfl⟩ inU11 14 (by decide) (fun _ _ _ => rfl) wl_913 c16 dX11_ages_16 ?_
    refine x_bipush F (v := 39) dX11_ages_19 (by decide) ?_
    refine x_iload_n F dX11_ages_21 rfl 1 rfl ?_
    refine x_iadd F dX11_ages_22 ?_
    refine x_aload_n F dX11_ages_23 rfl 0 rfl ?_
    refine x_iload_n F dX11_ages_24 rfl 1 rfl ?_
    obtain ⟨k25, h⟩ := gdS h
    obtain ⟨⟨x25, M25⟩, c25, h⟩ := bdS h
    dsimp only at h
    refine x_callV F (As := [.int v1]) (rest := [.int (39 + v1), .ref (b + x16)]) (res := (some (.int x25))) (ci := 11) (q := (RX11, TX11, 45)) rfl (by decide) k25 (k_X11_readIn l b D cy N v0 v1 M8 _ _ c25) wl_1059 wl_1060 wl_1061 wl_854 wl_1032 hd_X11_readIn ⟨Nat.le_of_ble_eq_true rfl, Nat.le_of_ble_eq_true rfl⟩ ⟨Nat.le_refl _, Nat.le_refl _⟩ (Nat.le_of_ble_eq_true rfl) rfl dX11_ages_25 ?_
    refine x_iconst F (v := (-1)) dX11_ages_28 (by decide) ?_
    refine x_icmp_eq F (tgt := 36) dX11_ages_29 (by decide) (fun c29 => ?_) (fun c29 => ?_)
    · rw [if_pos c29] at h
      refine x_aload_n F dX11_ages_36 rfl 0 rfl ?_
      obtain ⟨x37, c37, h⟩ := bdS h
      refine x_getR F (ci := 11) (C := RX11) (T := TX11) (N := 45) rfl ⟨by decide, rfl⟩ inU11 14 (by decide) (fun _ _ _ => rfl) wl_913 c37 dX11_ages_37 ?_
      refine x_bipush F (v := 39) dX11_ages_40 (by decide) ?_
      refine x_iload_n F dX11_ages_42 rfl 1 rfl ?_
      refine x_iadd F dX11_ages_43 ?_
      obtain ⟨x44, c44, h⟩ := bdS h
      refine x_aI F c44 dX11_ages_44 ?_
      refine x_iconst F (v := 1) dX11_ages_45 (by decide) ?_
      refine x_iadd F dX11_ages_46 ?_
      exact J47 v0 v1 (x44 + 1) (39 + v1) x16 M25 h
    · rw [if_neg c29] at h
      refine x_iconst F (v := 0) dX11_ages_32 (by decide) ?_
      refine x_goto F (tgt := 47) dX11_ages_33 (by decide) ?_
      exact J47 v0 v1 0 (39 + v1) x16 M25 h
  · rw [if_neg c11] at h
    obtain ⟨rfl, rfl⟩ := retS h
    exact x_vret F hr hl dX11_ages_14
theorem hd_X11_isWashed : (yX11_isWashed).cls = RX11 ∧ (yX11_isWashed).cls ≠ "java/lang/invoke/MethodHandle" ∧ (yX11_isWashed).cls ≠ "java/lang/invoke/VarHandle" ∧ (parseMethodDescriptor (yX11_isWashed).desc).map (fun d => d.parameters.length) = some 2 := by decide +kernel
theorem hd_X11_wash : (yX11_wash).cls = RX11 ∧ (yX11_wash).cls ≠ "java/lang/invoke/MethodHandle" ∧ (yX11_wash).cls ≠ "java/lang/invoke/VarHandle" ∧ (parseMethodDescriptor (yX11_wash).desc).map (fun d => d.parameters.length) = some 1 := by decide +kernel
theorem hd_X11_ages : (yX11_ages).cls = RX11 ∧ (yX11_ages).cls ≠ "java/lang/invoke/MethodHandle" ∧ (yX11_ages).cls ≠ "java/lang/invoke/VarHandle" ∧ (parseMethodDescriptor (yX11_ages).desc).map (fun d => d.parameters.length) = some 1 := by decide +kernel
theorem dX11_oneHour_0 : decode cX11_oneHour 0 = .ok (.iconst 0, 1) := by decide +kernel
theorem dX11_oneHour_1 : decode cX11_oneHour 1 = .ok (.istore_n 1, 1) := by decide +kernel
theorem dX11_oneHour_2 : decode cX11_oneHour 2 = .ok (.iload_n 1, 1) := by decide +kernel
theorem dX11_oneHour_3 : decode cX11_oneHour 3 = .ok (.aload_n 0, 1) := by decide +kernel
theorem dX11_oneHour_4 : decode cX11_oneHour 4 = .ok (.getfield 98, 3) := by decide +kernel
theorem dX11_oneHour_7 : decode cX11_oneHour 7 = .ok (.iconst 0, 1) := by decide +kernel
theorem dX11_oneHour_8 : decode cX11_oneHour 8 = .ok (.iaload, 1) := by decide +kernel
theorem dX11_oneHour_9 : decode cX11_oneHour 9 = .ok (.if_icmp .ge 23, 3) := by decide +kernel
theorem dX11_oneHour_12 : decode cX11_oneHour 12 = .ok (.aload_n 0, 1) := by decide +kernel
theorem dX11_oneHour_13 : decode cX11_oneHour 13 = .ok (.iload_n 1, 1) := by decide +kernel
theorem dX11_oneHour_14 : decode cX11_oneHour 14 = .ok (.iconst 0, 1) := by decide +kernel
theorem dX11_oneHour_15 : decode cX11_oneHour 15 = .ok (.invokevirtual 287, 3) := by decide +kernel
theorem dX11_oneHour_18 : decode cX11_oneHour 18 = .ok (.ifCond .eq 8, 3) := by decide +kernel
theorem dX11_oneHour_21 : decode cX11_oneHour 21 = .ok (.aload_n 0, 1) := by decide +kernel
theorem dX11_oneHour_22 : decode cX11_oneHour 22 = .ok (.iload_n 1, 1) := by decide +kernel
theorem dX11_oneHour_23 : decode cX11_oneHour 23 = .ok (.invokevirtual 290, 3) := by decide +kernel
theorem dX11_oneHour_26 : decode cX11_oneHour 26 = .ok (.iinc 1 1, 3) := by decide +kernel
theorem dX11_oneHour_29 : decode cX11_oneHour 29 = .ok (.goto (-27), 3) := by decide +kernel
theorem dX11_oneHour_32 : decode cX11_oneHour 32 = .ok (.iconst 0, 1) := by decide +kernel
theorem dX11_oneHour_33 : decode cX11_oneHour 33 = .ok (.istore_n 1, 1) := by decide +kernel
theorem dX11_oneHour_34 : decode cX11_oneHour 34 = .ok (.iload_n 1, 1) := by decide +kernel
theorem dX11_oneHour_35 : decode cX11_oneHour 35 = .ok (.aload_n 0, 1) := by decide +kernel
theorem dX11_oneHour_36 : decode cX11_oneHour 36 = .ok (.getfield 98, 3) := by decide +kernel
theorem dX11_oneHour_39 : decode cX11_oneHour 39 = .ok (.iconst 2, 1) := by decide +kernel
theorem dX11_oneHour_40 : decode cX11_oneHour 40 = .ok (.iaload, 1) := by decide +kernel
theorem dX11_oneHour_41 : decode cX11_oneHour 41 = .ok (.if_icmp .ge 14, 3) := by decide +kernel
theorem dX11_oneHour_44 : decode cX11_oneHour 44 = .ok (.aload_n 0, 1) := by decide +kernel
theorem dX11_oneHour_45 : decode cX11_oneHour 45 = .ok (.iload_n 1, 1) := by decide +kernel
theorem dX11_oneHour_46 : decode cX11_oneHour 46 = .ok (.invokevirtual 293, 3) := by decide +kernel
theorem dX11_oneHour_49 : decode cX11_oneHour 49 = .ok (.iinc 1 1, 3) := by decide +kernel
theorem dX11_oneHour_52 : decode cX11_oneHour 52 = .ok (.goto (-18), 3) := by decide +kernel
theorem dX11_oneHour_55 : decode cX11_oneHour 55 = .ok (.iconst 0, 1) := by decide +kernel
theorem dX11_oneHour_56 : decode cX11_oneHour 56 = .ok (.istore_n 1, 1) := by decide +kernel
theorem dX11_oneHour_57 : decode cX11_oneHour 57 = .ok (.iload_n 1, 1) := by decide +kernel
theorem dX11_oneHour_58 : decode cX11_oneHour 58 = .ok (.iconst 4, 1) := by decide +kernel
theorem dX11_oneHour_59 : decode cX11_oneHour 59 = .ok (.if_icmp .ge 19, 3) := by decide +kernel
theorem dX11_oneHour_62 : decode cX11_oneHour 62 = .ok (.aload_n 0, 1) := by decide +kernel
theorem dX11_oneHour_63 : decode cX11_oneHour 63 = .ok (.getfield 98, 3) := by decide +kernel
theorem dX11_oneHour_66 : decode cX11_oneHour 66 = .ok (.bipush 45, 2) := by decide +kernel
theorem dX11_oneHour_68 : decode cX11_oneHour 68 = .ok (.iload_n 1, 1) := by decide +kernel
theorem dX11_oneHour_69 : decode cX11_oneHour 69 = .ok (.iadd, 1) := by decide +kernel
theorem dX11_oneHour_70 : decode cX11_oneHour 70 = .ok (.iconst 0, 1) := by decide +kernel
theorem dX11_oneHour_71 : decode cX11_oneHour 71 = .ok (.iastore, 1) := by decide +kernel
theorem dX11_oneHour_72 : decode cX11_oneHour 72 = .ok (.iinc 1 1, 3) := by decide +kernel
theorem dX11_oneHour_75 : decode cX11_oneHour 75 = .ok (.goto (-18), 3) := by decide +kernel
theorem dX11_oneHour_78 : decode cX11_oneHour 78 = .ok (.aload_n 0, 1) := by decide +kernel
theorem dX11_oneHour_79 : decode cX11_oneHour 79 = .ok (.getfield 98, 3) := by decide +kernel
theorem dX11_oneHour_82 : decode cX11_oneHour 82 = .ok (.bipush 35, 2) := by decide +kernel
theorem dX11_oneHour_84 : decode cX11_oneHour 84 = .ok (.dup2, 1) := by decide +kernel
theorem dX11_oneHour_85 : decode cX11_oneHour 85 = .ok (.iaload, 1) := by decide +kernel
theorem dX11_oneHour_86 : decode cX11_oneHour 86 = .ok (.iconst 1, 1) := by decide +kernel
theorem dX11_oneHour_87 : decode cX11_oneHour 87 = .ok (.iadd, 1) := by decide +kernel
theorem dX11_oneHour_88 : decode cX11_oneHour 88 = .ok (.iastore, 1) := by decide +kernel
theorem dX11_oneHour_89 : decode cX11_oneHour 89 = .ok (.return_, 1) := by decide +kernel
def fX11_oneHour_L2 (N : Nat) (v0 : Nat) : Nat → Int32 → Mem → Option (Mem)
  | 0, _, _ => none
  | n + 1, v1, M => ((fR M 11 v0 14).bind fun x4 => ((aI M x4 0).bind fun x8 => (if x8 ≤ v1 then some M else (if mK M v0 = 12 then ((fX11_isWashed N v0 v1 0 M).bind fun (x15, M15) => (if x15 = 0 then fX11_oneHour_L2 N v0 n (v1 + 1) M15 else (if mK M15 v0 = 12 then ((fX11_wash N v0 v1 M15).bind fun (u23, M23) => fX11_oneHour_L2 N v0 n (v1 + 1) M23) else none))) else none))))
def fX11_oneHour_L34 (N : Nat) (v0 : Nat) : Nat → Int32 → Mem → Option (Mem)
  | 0, _, _ => none
  | n + 1, v1, M => ((fR M 11 v0 14).bind fun x36 => ((aI M x36 2).bind fun x40 => (if x40 ≤ v1 then some M else (if mK M v0 = 12 then ((fX11_ages N v0 v1 M).bind fun (u46, M46) => fX11_oneHour_L34 N v0 n (v1 + 1) M46) else none))))
def fX11_oneHour_L57 (N : Nat) (v0 : Nat) : Nat → Int32 → Mem → Option (Mem)
  | 0, _, _ => none
  | n + 1, v1, M => (if 4 ≤ v1 then some M else ((fR M 11 v0 14).bind fun x63 => ((tI M x63 (45 + v1) 0).bind fun M71 => fX11_oneHour_L57 N v0 n (v1 + 1) M71)))
def fX11_oneHour (N : Nat) (v0 : Nat) (M : Mem) : Option (Unit × Mem) := ((fX11_oneHour_L2 N v0 N 0 M).bind fun o2 => ((fX11_oneHour_L34 N v0 N 0 o2).bind fun o34 => ((fX11_oneHour_L57 N v0 N 0 o34).bind fun o57 => ((fR o57 11 v0 14).bind fun x79 => ((aI o57 x79 35).bind fun x85 => ((tI o57 x79 35 (x85 + 1)).bind fun M88 => some ((), M88)))))))
set_option maxHeartbeats 4000000 in
set_option maxRecDepth 100000 in
theorem k_X11_oneHour (l : Launch) (b : Nat) (D : va_G) (cy : Nat → ClassId) (N : Nat) (v0 : Nat) (M : Mem) (r : Unit) (Mf : Mem) (h : fX11_oneHour N v0 M = some (r, Mf)) : Ct l yX11_oneHour cX11_oneHour 2 none 8 0 0 b D cy [.ref (b + v0)] M none Mf := by
  refine Ct_of (own := RX11) (by decide) rfl (Nat.le_of_ble_eq_true rfl) ?_
  intro p e s m args below meth c F hr hl hmn
  unfold fX11_oneHour at h
  show X p l e ({ frames := 8, cells := 0, slots := 0, locals := 100 * 8 }) s m args below meth c (MQ below (Qm b D cy none Mf) args s 0 0 (fun q => b ≤ q)) 2 b D cy 0 0 M 0 [(0, .ref (b + v0))] []
  refine x_iconst F (v := 0) dX11_oneHour_0 (by decide) ?_
  refine x_istore_n F (lv' := [(1, .int 0), (0, .ref (b + v0))]) dX11_oneHour_1 rfl (by decide) rfl ?_
  have L2 : ∀ (v0 : Nat) (n : Nat) (v1 : Int32) (M : Mem) (o : Mem), fX11_oneHour_L2 N v0 n v1 M = some o → X p l e ({ frames := 8, cells := 0, slots := 0, locals := 100 * 8 }) s m args below meth c (MQ below (Qm b D cy none Mf) args s 0 0 (fun q => b ≤ q)) 2 b D cy 0 0 o 32 [(0, .ref (b + v0))] [] → X p l e ({ frames := 8, cells := 0, slots := 0, locals := 100 * 8 }) s m args below meth c (MQ below (Qm b D cy none Mf) args s 0 0 (fun q => b ≤ q)) 2 b D cy 0 0 M 2 [(0, .ref (b + v0)), (1, .int v1)] [] := by
    intro v0 n
    induction n with
    | zero => intro v1 M o h; exact absurd h (by rw [fX11_oneHour_L2]; exact fun z => by cases z)
    | succ n ih =>
      intro v1 M o h hE
      rw [fX11_oneHour_L2] at h
      refine x_iload_n F dX11_oneHour_2 rfl 1 rfl ?_
      refine x_aload_n F dX11_oneHour_3 rfl 0 rfl ?_
      obtain ⟨x4, c4, h⟩ := bdS h
      refine x_getR F (ci := 11) (C := RX11) (T := TX11) (N := 45) rfl ⟨by decide, rfl⟩ inU11 14 (by decide) (fun _ _ _ => rfl) wl_913 c4 dX11_oneHour_4 ?_
      refine x_iconst F (v := 0) dX11_oneHour_7 (by decide) ?_
      obtain ⟨x8, c8, h⟩ := bdS h
      refine x_aI F c8 dX11_oneHour_8 ?_
      refine x_icmp_ge F (tgt := 32) dX11_oneHour_9 (by decide) (fun c9 => ?_) (fun c9 => ?_)
      · rw [if_pos c9] at h
        obtain rfl := Option.some.inj h
        refine x_sub [0] rfl ?_
        exact hE
      · rw [if_neg c9] at h
        refine x_aload_n F dX11_oneHour_12 rfl 0 rfl ?_
        refine x_iload_n F dX11_oneHour_13 rfl 1 rfl ?_
        refine x_iconst F (v := 0) dX11_oneHour_14 (by decide) ?_
        obtain ⟨k15, h⟩ := gdS h
        obtain ⟨⟨x15, M15⟩, c15, h⟩ := bdS h
        dsimp only at h
        refine x_callV F (As := [.int v1, .int 0]) (rest := []) (res := (some (.int x15))) (ci := 11) (q := (RX11, TX11, 45)) rfl (by decide) k15 (k_X11_isWashed l b D cy N v0 v1 0 M _ _ c15) wl_1094 wl_1095 wl_1096 wl_854 wl_1035 hd_X11_isWashed ⟨Nat.le_of_ble_eq_true rfl, Nat.le_of_ble_eq_true rfl⟩ ⟨Nat.le_refl _, Nat.le_refl _⟩ (Nat.le_of_ble_eq_true rfl) rfl dX11_oneHour_15 ?_
        refine x_if_eq F (tgt := 26) dX11_oneHour_18 (by decide) (fun c18 => ?_) (fun c18 => ?_)
        · rw [if_pos c18] at h
          refine x_iinc F (v := v1 + 1) (lv' := [(1, .int (v1 + 1)), (0, .ref (b + v0))]) dX11_oneHour_26 1 rfl rfl (by decide) rfl ?_
          refine x_goto F (tgt := 2) dX11_oneHour_29 (by decide) ?_
          refine x_sub [1, 0] rfl ?_
          exact ih (v1 + 1) M15 o h hE
        · rw [if_neg c18] at h
          refine x_aload_n F dX11_oneHour_21 rfl 0 rfl ?_
          refine x_iload_n F dX11_oneHour_22 rfl 1 rfl ?_
          obtain ⟨k23, h⟩ := gdS h
          obtain ⟨⟨u23, M23⟩, c23, h⟩ := bdS h
          dsimp only at h
          refine x_callV F (As := [.int v1]) (rest := []) (res := none) (ci := 11) (q := (RX11, TX11, 45)) rfl (by decide) k23 (k_X11_wash l b D cy N v0 v1 M15 _ _ c23) wl_1097 wl_1098 wl_1099 wl_854 wl_1092 hd_X11_wash ⟨Nat.le_of_ble_eq_true rfl, Nat.le_of_ble_eq_true rfl⟩ ⟨Nat.le_refl _, Nat.le_refl _⟩ (Nat.le_of_ble_eq_true rfl) rfl dX11_oneHour_23 ?_
          refine x_iinc F (v := v1 + 1) (lv' := [(1, .int (v1 + 1)), (0, .ref (b + v0))]) dX11_oneHour_26 1 rfl rfl (by decide) rfl ?_
          refine x_goto F (tgt := 2) dX11_oneHour_29 (by decide) ?_
          refine x_sub [1, 0] rfl ?_
          exact ih (v1 + 1) M23 o h hE
  obtain ⟨o2, h2, h⟩ := bdS h
  refine x_sub [1, 0] rfl ?_
  refine L2 v0 N 0 M o2 h2 ?_
  refine x_iconst F (v := 0) dX11_oneHour_32 (by decide) ?_
  refine x_istore_n F (lv' := [(1, .int 0), (0, .ref (b + v0))]) dX11_oneHour_33 rfl (by decide) rfl ?_
  have L34 : ∀ (v0 : Nat) (n : Nat) (v1 : Int32) (M : Mem) (o : Mem), fX11_oneHour_L34 N v0 n v1 M = some o → X p l e ({ frames := 8, cells := 0, slots := 0, locals := 100 * 8 }) s m args below meth c (MQ below (Qm b D cy none Mf) args s 0 0 (fun q => b ≤ q)) 2 b D cy 0 0 o 55 [(0, .ref (b + v0))] [] → X p l e ({ frames := 8, cells := 0, slots := 0, locals := 100 * 8 }) s m args below meth c (MQ below (Qm b D cy none Mf) args s 0 0 (fun q => b ≤ q)) 2 b D cy 0 0 M 34 [(0, .ref (b + v0)), (1, .int v1)] [] := by
    intro v0 n
    induction n with
    | zero => intro v1 M o h; exact absurd h (by rw [fX11_oneHour_L34]; exact fun z => by cases z)
    | succ n ih =>
      intro v1 M o h hE
      rw [fX11_oneHour_L34] at h
      refine x_iload_n F dX11_oneHour_34 rfl 1 rfl ?_
      refine x_aload_n F dX11_oneHour_35 rfl 0 rfl ?_
      obtain ⟨x36, c36, h⟩ := bdS h
      refine x_getR F (ci := 11) (C := RX11) (T := TX11) (N := 45) rfl ⟨by decide, rfl⟩ inU11 14 (by decide) (fun _ _ _ => rfl) wl_913 c36 dX11_oneHour_36 ?_
      refine x_iconst F (v := 2) dX11_oneHour_39 (by decide) ?_
      obtain ⟨x40, c40, h⟩ := bdS h
      refine x_aI F c40 dX11_oneHour_40 ?_
      refine x_icmp_ge F (tgt := 55) dX11_oneHour_41 (by decide) (fun c41 => ?_) (fun c41 => ?_)
      · rw [if_pos c41] at h
        obtain rfl := Option.some.inj h
        refine x_sub [0] rfl ?_
        exact hE
      · rw [if_neg c41] at h
        refine x_aload_n F dX11_oneHour_44 rfl 0 rfl ?_
        refine x_iload_n F dX11_oneHour_45 rfl 1 rfl ?_
        obtain ⟨k46, h⟩ := gdS h
        obtain ⟨⟨u46, M46⟩, c46, h⟩ := bdS h
        dsimp only at h
        refine x_callV F (As := [.int v1]) (rest := []) (res := none) (ci := 11) (q := (RX11, TX11, 45)) rfl (by decide) k46 (k_X11_ages l b D cy N v0 v1 M _ _ c46) wl_1100 wl_1101 wl_1102 wl_854 wl_1093 hd_X11_ages ⟨Nat.le_of_ble_eq_true rfl, Nat.le_of_ble_eq_true rfl⟩ ⟨Nat.le_refl _, Nat.le_refl _⟩ (Nat.le_of_ble_eq_true rfl) rfl dX11_oneHour_46 ?_
        refine x_iinc F (v := v1 + 1) (lv' := [(1, .int (v1 + 1)), (0, .ref (b + v0))]) dX11_oneHour_49 1 rfl rfl (by decide) rfl ?_
        refine x_goto F (tgt := 34) dX11_oneHour_52 (by decide) ?_
        refine x_sub [1, 0] rfl ?_
        exact ih (v1 + 1) M46 o h hE
  obtain ⟨o34, h34, h⟩ := bdS h
  refine x_sub [1, 0] rfl ?_
  refine L34 v0 N 0 o2 o34 h34 ?_
  refine x_iconst F (v := 0) dX11_oneHour_55 (by decide) ?_
  refine x_istore_n F (lv' := [(1, .int 0), (0, .ref (b + v0))]) dX11_oneHour_56 rfl (by decide) rfl ?_
  have L57 : ∀ (v0 : Nat) (n : Nat) (v1 : Int32) (M : Mem) (o : Mem), fX11_oneHour_L57 N v0 n v1 M = some o → X p l e ({ frames := 8, cells := 0, slots := 0, locals := 100 * 8 }) s m args below meth c (MQ below (Qm b D cy none Mf) args s 0 0 (fun q => b ≤ q)) 2 b D cy 0 0 o 78 [(0, .ref (b + v0))] [] → X p l e ({ frames := 8, cells := 0, slots := 0, locals := 100 * 8 }) s m args below meth c (MQ below (Qm b D cy none Mf) args s 0 0 (fun q => b ≤ q)) 2 b D cy 0 0 M 57 [(0, .ref (b + v0)), (1, .int v1)] [] := by
    intro v0 n
    induction n with
    | zero => intro v1 M o h; exact absurd h (by rw [fX11_oneHour_L57]; exact fun z => by cases z)
    | succ n ih =>
      intro v1 M o h hE
      rw [fX11_oneHour_L57] at h
      refine x_iload_n F dX11_oneHour_57 rfl 1 rfl ?_
      refine x_iconst F (v := 4) dX11_oneHour_58 (by decide) ?_
      refine x_icmp_ge F (tgt := 78) dX11_oneHour_59 (by decide) (fun c59 => ?_) (fun c59 => ?_)
      · rw [if_pos c59] at h
        obtain rfl := Option.some.inj h
        refine x_sub [0] rfl ?_
        exact hE
      · rw [if_neg c59] at h
        refine x_aload_n F dX11_oneHour_62 rfl 0 rfl ?_
        obtain ⟨x63, c63, h⟩ := bdS h
        refine x_getR F (ci := 11) (C := RX11) (T := TX11) (N := 45) rfl ⟨by decide, rfl⟩ inU11 14 (by decide) (fun _ _ _ => rfl) wl_913 c63 dX11_oneHour_63 ?_
        refine x_bipush F (v := 45) dX11_oneHour_66 (by decide) ?_
        refine x_iload_n F dX11_oneHour_68 rfl 1 rfl ?_
        refine x_iadd F dX11_oneHour_69 ?_
        refine x_iconst F (v := 0) dX11_oneHour_70 (by decide) ?_
        obtain ⟨M71, c71, h⟩ := bdS h
        refine x_tI F c71 dX11_oneHour_71 ?_
        refine x_iinc F (v := v1 + 1) (lv' := [(1, .int (v1 + 1)), (0, .ref (b + v0))]) dX11_oneHour_72 1 rfl rfl (by decide) rfl ?_
        refine x_goto F (tgt := 57) dX11_oneHour_75 (by decide) ?_
        refine x_sub [1, 0] rfl ?_
        exact ih (v1 + 1) M71 o h hE
  obtain ⟨o57, h57, h⟩ := bdS h
  refine x_sub [1, 0] rfl ?_
  refine L57 v0 N 0 o34 o57 h57 ?_
  refine x_aload_n F dX11_oneHour_78 rfl 0 rfl ?_
  obtain ⟨x79, c79, h⟩ := bdS h
  refine x_getR F (ci := 11) (C := RX11) (T := TX11) (N := 45) rfl ⟨by decide, rfl⟩ inU11 14 (by decide) (fun _ _ _ => rfl) wl_913 c79 dX11_oneHour_79 ?_
  refine x_bipush F (v := 35) dX11_oneHour_82 (by decide) ?_
  refine x_dup2 F dX11_oneHour_84 rfl rfl ?_
  obtain ⟨x85, c85, h⟩ := bdS h
  refine x_aI F c85 dX11_oneHour_85 ?_
  refine x_iconst F (v := 1) dX11_oneHour_86 (by decide) ?_
  refine x_iadd F dX11_oneHour_87 ?_
  obtain ⟨M88, c88, h⟩ := bdS h
  refine x_tI F c88 dX11_oneHour_88 ?_
  obtain ⟨rfl, rfl⟩ := retS h
  exact x_vret F hr hl dX11_oneHour_89
theorem hd_X11_oneHour : (yX11_oneHour).cls = RX11 ∧ (yX11_oneHour).cls ≠ "java/lang/invoke/MethodHandle" ∧ (yX11_oneHour).cls ≠ "java/lang/invoke/VarHandle" ∧ (parseMethodDescriptor (yX11_oneHour).desc).map (fun d => d.parameters.length) = some 0 := by decide +kernel
theorem dX11_passHours_0 : decode cX11_passHours 0 = .ok (.iload_n 1, 1) := by decide +kernel
theorem dX11_passHours_1 : decode cX11_passHours 1 = .ok (.sipush 400, 3) := by decide +kernel
theorem dX11_passHours_4 : decode cX11_passHours 4 = .ok (.aload_n 0, 1) := by decide +kernel
theorem dX11_passHours_5 : decode cX11_passHours 5 = .ok (.getfield 98, 3) := by decide +kernel
theorem dX11_passHours_8 : decode cX11_passHours 8 = .ok (.bipush 35, 2) := by decide +kernel
theorem dX11_passHours_10 : decode cX11_passHours 10 = .ok (.iaload, 1) := by decide +kernel
theorem dX11_passHours_11 : decode cX11_passHours 11 = .ok (.isub, 1) := by decide +kernel
theorem dX11_passHours_12 : decode cX11_passHours 12 = .ok (.invokestatic 234, 3) := by decide +kernel
theorem dX11_passHours_15 : decode cX11_passHours 15 = .ok (.istore_n 2, 1) := by decide +kernel
theorem dX11_passHours_16 : decode cX11_passHours 16 = .ok (.iconst 0, 1) := by decide +kernel
theorem dX11_passHours_17 : decode cX11_passHours 17 = .ok (.istore_n 3, 1) := by decide +kernel
theorem dX11_passHours_18 : decode cX11_passHours 18 = .ok (.iload_n 3, 1) := by decide +kernel
theorem dX11_passHours_19 : decode cX11_passHours 19 = .ok (.iload_n 2, 1) := by decide +kernel
theorem dX11_passHours_20 : decode cX11_passHours 20 = .ok (.if_icmp .ge 13, 3) := by decide +kernel
theorem dX11_passHours_23 : decode cX11_passHours 23 = .ok (.aload_n 0, 1) := by decide +kernel
theorem dX11_passHours_24 : decode cX11_passHours 24 = .ok (.invokevirtual 296, 3) := by decide +kernel
theorem dX11_passHours_27 : decode cX11_passHours 27 = .ok (.iinc 3 1, 3) := by decide +kernel
theorem dX11_passHours_30 : decode cX11_passHours 30 = .ok (.goto (-12), 3) := by decide +kernel
theorem dX11_passHours_33 : decode cX11_passHours 33 = .ok (.iload_n 2, 1) := by decide +kernel
theorem dX11_passHours_34 : decode cX11_passHours 34 = .ok (.ireturn, 1) := by decide +kernel
def fX11_passHours_L18 (N : Nat) (v0 : Nat) (v2 : Int32) : Nat → Int32 → Mem → Option (Int32 × Mem)
  | 0, _, _ => none
  | n + 1, v3, M => (if v2 ≤ v3 then some (v2, M) else (if mK M v0 = 12 then ((fX11_oneHour N v0 M).bind fun (u24, M24) => fX11_passHours_L18 N v0 v2 n (v3 + 1) M24) else none))
def fX11_passHours (N : Nat) (v0 : Nat) (v1 : Int32) (M : Mem) : Option (Int32 × Mem) := ((fR M 11 v0 14).bind fun x5 => ((aI M x5 35).bind fun x10 => ((fX11_least N v1 (400 - x10) M).bind fun (x12, M12) => ((fX11_passHours_L18 N v0 x12 N 0 M12).bind fun o18 => some o18))))
set_option maxHeartbeats 4000000 in
set_option maxRecDepth 100000 in
theorem k_X11_passHours (l : Launch) (b : Nat) (D : va_G) (cy : Nat → ClassId) (N : Nat) (v0 : Nat) (v1 : Int32) (M : Mem) (r : Int32) (Mf : Mem) (h : fX11_passHours N v0 v1 M = some (r, Mf)) : Ct l yX11_passHours cX11_passHours 4 (some .int) 9 0 0 b D cy [.ref (b + v0), .int v1] M (some (.int r)) Mf := by
  refine Ct_of (own := RX11) (by decide) rfl (Nat.le_of_ble_eq_true rfl) ?_
  intro p e s m args below meth c F hr hl hmn
  unfold fX11_passHours at h
  show X p l e ({ frames := 9, cells := 0, slots := 0, locals := 100 * 9 }) s m args below meth c (MQ below (Qm b D cy (some (.int r)) Mf) args s 0 0 (fun q => b ≤ q)) 4 b D cy 0 0 M 0 [(0, .ref (b + v0)), (1, .int v1)] []
  refine x_iload_n F dX11_passHours_0 rfl 1 rfl ?_
  refine x_sipush F (v := 400) dX11_passHours_1 (by decide) ?_
  refine x_aload_n F dX11_passHours_4 rfl 0 rfl ?_
  obtain ⟨x5, c5, h⟩ := bdS h
  refine x_getR F (ci := 11) (C := RX11) (T := TX11) (N := 45) rfl ⟨by decide, rfl⟩ inU11 14 (by decide) (fun _ _ _ => rfl) wl_913 c5 dX11_passHours_5 ?_
  refine x_bipush F (v := 35) dX11_passHours_8 (by decide) ?_
  obtain ⟨x10, c10, h⟩ := bdS h
  refine x_aI F c10 dX11_passHours_10 ?_
  refine x_isub F dX11_passHours_11 ?_
  obtain ⟨⟨x12, M12⟩, c12, h⟩ := bdS h
  dsimp only at h
  refine x_callS F (As := [.int v1, .int (400 - x10)]) (rest := []) (res := (some (.int x12))) (k_X11_least l b D cy N v1 (400 - x10) M _ _ c12) wl_1022 wl_1023 wl_854 wl_860 (hd_X11_least).2 ⟨Nat.le_of_ble_eq_true rfl, Nat.le_of_ble_eq_true rfl⟩ ⟨Nat.le_refl _, Nat.le_refl _⟩ (Nat.le_of_ble_eq_true rfl) rfl dX11_passHours_12 ?_
  refine x_istore_n F (lv' := [(2, .int x12), (0, .ref (b + v0)), (1, .int v1)]) dX11_passHours_15 rfl (by decide) rfl ?_
  refine x_iconst F (v := 0) dX11_passHours_16 (by decide) ?_
  refine x_istore_n F (lv' := [(3, .int 0), (2, .int x12), (0, .ref (b + v0)), (1, .int v1)]) dX11_passHours_17 rfl (by decide) rfl ?_
  have L18 : ∀ (v0 : Nat) (v2 : Int32) (n : Nat) (v3 : Int32) (M : Mem) (o : Int32 × Mem), fX11_passHours_L18 N v0 v2 n v3 M = some o → (∀ (r' : Int32) (M' : Mem), o = (r', M') → r' = r ∧ M' = Mf) → X p l e ({ frames := 9, cells := 0, slots := 0, locals := 100 * 9 }) s m args below meth c (MQ below (Qm b D cy (some (.int r)) Mf) args s 0 0 (fun q => b ≤ q)) 4 b D cy 0 0 M 18 [(0, .ref (b + v0)), (2, .int v2), (3, .int v3)] [] := by
    intro v0 v2 n
    induction n with
    | zero => intro v3 M o h; exact absurd h (by rw [fX11_passHours_L18]; exact fun z => by cases z)
    | succ n ih =>
      intro v3 M o h hR
      rw [fX11_passHours_L18] at h
      refine x_iload_n F dX11_passHours_18 rfl 2 rfl ?_
      refine x_iload_n F dX11_passHours_19 rfl 1 rfl ?_
      refine x_icmp_ge F (tgt := 33) dX11_passHours_20 (by decide) (fun c20 => ?_) (fun c20 => ?_)
      · rw [if_pos c20] at h
        refine x_iload_n F dX11_passHours_33 rfl 1 rfl ?_
        obtain rfl := Option.some.inj h
        obtain ⟨rfl, rfl⟩ := hR _ _ rfl
        exact x_iret F hr hl dX11_passHours_34
      · rw [if_neg c20] at h
        refine x_aload_n F dX11_passHours_23 rfl 0 rfl ?_
        obtain ⟨k24, h⟩ := gdS h
        obtain ⟨⟨u24, M24⟩, c24, h⟩ := bdS h
        dsimp only at h
        refine x_callV F (As := []) (rest := []) (res := none) (ci := 11) (q := (RX11, TX11, 45)) rfl (by decide) k24 (k_X11_oneHour l b D cy N v0 M _ _ c24) wl_1104 wl_1105 wl_1106 wl_854 wl_1103 hd_X11_oneHour ⟨Nat.le_of_ble_eq_true rfl, Nat.le_of_ble_eq_true rfl⟩ ⟨Nat.le_refl _, Nat.le_refl _⟩ (Nat.le_of_ble_eq_true rfl) rfl dX11_passHours_24 ?_
        refine x_iinc F (v := v3 + 1) (lv' := [(3, .int (v3 + 1)), (0, .ref (b + v0)), (2, .int v2)]) dX11_passHours_27 2 rfl rfl (by decide) rfl ?_
        refine x_goto F (tgt := 18) dX11_passHours_30 (by decide) ?_
        refine x_sub [1, 2, 0] rfl ?_
        exact ih (v3 + 1) M24 o h hR
  obtain ⟨o18, h18, h⟩ := bdS h
  refine x_sub [2, 1, 0] rfl ?_
  refine L18 v0 x12 N 0 M12 o18 h18 (fun r' M' e => ?_)
  · subst e
    try dsimp only at h
    obtain ⟨rfl, rfl⟩ := retS h; exact ⟨rfl, rfl⟩
theorem hd_X11_passHours : (yX11_passHours).cls = RX11 ∧ (yX11_passHours).cls ≠ "java/lang/invoke/MethodHandle" ∧ (yX11_passHours).cls ≠ "java/lang/invoke/VarHandle" ∧ (parseMethodDescriptor (yX11_passHours).desc).map (fun d => d.parameters.length) = some 1 := by decide +kernel
theorem dX11_hours_0 : decode cX11_hours 0 = .ok (.aload_n 0, 1) := by decide +kernel
theorem dX11_hours_1 : decode cX11_hours 1 = .ok (.iconst 0, 1) := by decide +kernel
theorem dX11_hours_2 : decode cX11_hours 2 = .ok (.putfield 1, 3) := by decide +kernel
theorem dX11_hours_5 : decode cX11_hours 5 = .ok (.iload_n 1, 1) := by decide +kernel
theorem dX11_hours_6 : decode cX11_hours 6 = .ok (.iconst 1, 1) := by decide +kernel
theorem dX11_hours_7 : decode cX11_hours 7 = .ok (.bipush 60, 2) := by decide +kernel
theorem dX11_hours_9 : decode cX11_hours 9 = .ok (.invokestatic 75, 3) := by decide +kernel
theorem dX11_hours_12 : decode cX11_hours 12 = .ok (.ifCond .ne 5, 3) := by decide +kernel
theorem dX11_hours_15 : decode cX11_hours 15 = .ok (.iconst (-1), 1) := by decide +kernel
theorem dX11_hours_16 : decode cX11_hours 16 = .ok (.ireturn, 1) := by decide +kernel
theorem dX11_hours_17 : decode cX11_hours 17 = .ok (.aload_n 0, 1) := by decide +kernel
theorem dX11_hours_18 : decode cX11_hours 18 = .ok (.getfield 98, 3) := by decide +kernel
theorem dX11_hours_21 : decode cX11_hours 21 = .ok (.bipush 35, 2) := by decide +kernel
theorem dX11_hours_23 : decode cX11_hours 23 = .ok (.iaload, 1) := by decide +kernel
theorem dX11_hours_24 : decode cX11_hours 24 = .ok (.sipush 400, 3) := by decide +kernel
theorem dX11_hours_27 : decode cX11_hours 27 = .ok (.if_icmp .ne 5, 3) := by decide +kernel
theorem dX11_hours_30 : decode cX11_hours 30 = .ok (.iconst 0, 1) := by decide +kernel
theorem dX11_hours_31 : decode cX11_hours 31 = .ok (.ireturn, 1) := by decide +kernel
theorem dX11_hours_32 : decode cX11_hours 32 = .ok (.aload_n 0, 1) := by decide +kernel
theorem dX11_hours_33 : decode cX11_hours 33 = .ok (.invokevirtual 273, 3) := by decide +kernel
theorem dX11_hours_36 : decode cX11_hours 36 = .ok (.aload_n 0, 1) := by decide +kernel
theorem dX11_hours_37 : decode cX11_hours 37 = .ok (.iload_n 1, 1) := by decide +kernel
theorem dX11_hours_38 : decode cX11_hours 38 = .ok (.invokevirtual 299, 3) := by decide +kernel
theorem dX11_hours_41 : decode cX11_hours 41 = .ok (.ireturn, 1) := by decide +kernel
def fX11_hours (N : Nat) (v0 : Nat) (v1 : Int32) (M : Mem) : Option (Int32 × Mem) := ((pI M 11 v0 0 0).bind fun M2 => ((fX11_isIn N v1 1 60 M2).bind fun (x9, M9) => (if x9 = 0 then some ((-1), M9) else ((fR M9 11 v0 14).bind fun x18 => ((aI M9 x18 35).bind fun x23 => (if x23 = 400 then some (0, M9) else (if mK M9 v0 = 12 then ((fX11_snap N v0 M9).bind fun (u33, M33) => (if mK M33 v0 = 12 then ((fX11_passHours N v0 v1 M33).bind fun (x38, M38) => some (x38, M38)) else none)) else none)))))))
set_option maxHeartbeats 4000000 in
set_option maxRecDepth 100000 in
theorem k_X11_hours (l : Launch) (b : Nat) (D : va_G) (cy : Nat → ClassId) (N : Nat) (v0 : Nat) (v1 : Int32) (M : Mem) (r : Int32) (Mf : Mem) (h : fX11_hours N v0 v1 M = some (r, Mf)) : Ct l yX11_hours cX11_hours 2 (some .int) 10 0 0 b D cy [.ref (b + v0), .int v1] M (some (.int r)) Mf := by
  refine Ct_of (own := RX11) (by decide) rfl (Nat.le_of_ble_eq_true rfl) ?_
  intro p e s m args below meth c F hr hl hmn
  unfold fX11_hours at h
  show X p l e ({ frames := 10, cells := 0, slots := 0, locals := 100 * 10 }) s m args below meth c (MQ below (Qm b D cy (some (.int r)) Mf) args s 0 0 (fun q => b ≤ q)) 2 b D cy 0 0 M 0 [(0, .ref (b + v0)), (1, .int v1)] []
  refine x_aload_n F dX11_hours_0 rfl 0 rfl ?_
  refine x_iconst F (v := 0) dX11_hours_1 (by decide) ?_
  obtain ⟨M2, c2, h⟩ := bdS h
  refine x_putI F (ci := 11) (C := RX11) (T := TX11) (N := 45) rfl ⟨by decide, rfl⟩ inU11 tyX11_ok nmX11 0 (by decide) rfl rfl wl_845 c2 dX11_hours_2 ?_
  refine x_iload_n F dX11_hours_5 rfl 1 rfl ?_
  refine x_iconst F (v := 1) dX11_hours_6 (by decide) ?_
  refine x_bipush F (v := 60) dX11_hours_7 (by decide) ?_
  obtain ⟨⟨x9, M9⟩, c9, h⟩ := bdS h
  dsimp only at h
  refine x_callS F (As := [.int v1, .int 1, .int 60]) (rest := []) (res := (some (.int x9))) (k_X11_isIn l b D cy N v1 1 60 M2 _ _ c9) wl_898 wl_899 wl_854 wl_857 (hd_X11_isIn).2 ⟨Nat.le_of_ble_eq_true rfl, Nat.le_of_ble_eq_true rfl⟩ ⟨Nat.le_refl _, Nat.le_refl _⟩ (Nat.le_of_ble_eq_true rfl) rfl dX11_hours_9 ?_
  refine x_if_ne F (tgt := 17) dX11_hours_12 (by decide) (fun c12 => ?_) (fun c12 => ?_)
  · rw [if_neg c12] at h
    refine x_aload_n F dX11_hours_17 rfl 0 rfl ?_
    obtain ⟨x18, c18, h⟩ := bdS h
    refine x_getR F (ci := 11) (C := RX11) (T := TX11) (N := 45) rfl ⟨by decide, rfl⟩ inU11 14 (by decide) (fun _ _ _ => rfl) wl_913 c18 dX11_hours_18 ?_
    refine x_bipush F (v := 35) dX11_hours_21 (by decide) ?_
    obtain ⟨x23, c23, h⟩ := bdS h
    refine x_aI F c23 dX11_hours_23 ?_
    refine x_sipush F (v := 400) dX11_hours_24 (by decide) ?_
    refine x_icmp_ne F (tgt := 32) dX11_hours_27 (by decide) (fun c27 => ?_) (fun c27 => ?_)
    · rw [if_neg c27] at h
      refine x_aload_n F dX11_hours_32 rfl 0 rfl ?_
      obtain ⟨k33, h⟩ := gdS h
      obtain ⟨⟨u33, M33⟩, c33, h⟩ := bdS h
      dsimp only at h
      refine x_callV F (As := []) (rest := []) (res := none) (ci := 11) (q := (RX11, TX11, 45)) rfl (by decide) k33 (k_X11_snap l b D cy N v0 M9 _ _ c33) wl_1077 wl_1078 wl_1079 wl_854 wl_1069 hd_X11_snap ⟨Nat.le_of_ble_eq_true rfl, Nat.le_of_ble_eq_true rfl⟩ ⟨Nat.le_refl _, Nat.le_refl _⟩ (Nat.le_of_ble_eq_true rfl) rfl dX11_hours_33 ?_
      refine x_aload_n F dX11_hours_36 rfl 0 rfl ?_
      refine x_iload_n F dX11_hours_37 rfl 1 rfl ?_
      obtain ⟨k38, h⟩ := gdS h
      obtain ⟨⟨x38, M38⟩, c38, h⟩ := bdS h
      dsimp only at h
      refine x_callV F (As := [.int v1]) (rest := []) (res := (some (.int x38))) (ci := 11) (q := (RX11, TX11, 45)) rfl (by decide) k38 (k_X11_passHours l b D cy N v0 v1 M33 _ _ c38) wl_1108 wl_1109 wl_1110 wl_854 wl_1107 hd_X11_passHours ⟨Nat.le_of_ble_eq_true rfl, Nat.le_of_ble_eq_true rfl⟩ ⟨Nat.le_refl _, Nat.le_refl _⟩ (Nat.le_of_ble_eq_true rfl) rfl dX11_hours_38 ?_
      obtain ⟨rfl, rfl⟩ := retS h
      exact x_iret F hr hl dX11_hours_41
    · rw [if_pos c27] at h
      refine x_iconst F (v := 0) dX11_hours_30 (by decide) ?_
      obtain ⟨rfl, rfl⟩ := retS h
      exact x_iret F hr hl dX11_hours_31
  · rw [if_pos c12] at h
    refine x_iconst F (v := (-1)) dX11_hours_15 (by decide) ?_
    obtain ⟨rfl, rfl⟩ := retS h
    exact x_iret F hr hl dX11_hours_16
theorem dX11_fitsOf_0 : decode cX11_fitsOf 0 = .ok (.iconst 0, 1) := by decide +kernel
theorem dX11_fitsOf_1 : decode cX11_fitsOf 1 = .ok (.istore_n 2, 1) := by decide +kernel
theorem dX11_fitsOf_2 : decode cX11_fitsOf 2 = .ok (.iconst 0, 1) := by decide +kernel
theorem dX11_fitsOf_3 : decode cX11_fitsOf 3 = .ok (.istore_n 3, 1) := by decide +kernel
theorem dX11_fitsOf_4 : decode cX11_fitsOf 4 = .ok (.iload_n 3, 1) := by decide +kernel
theorem dX11_fitsOf_5 : decode cX11_fitsOf 5 = .ok (.aload_n 0, 1) := by decide +kernel
theorem dX11_fitsOf_6 : decode cX11_fitsOf 6 = .ok (.getfield 98, 3) := by decide +kernel
theorem dX11_fitsOf_9 : decode cX11_fitsOf 9 = .ok (.iconst 2, 1) := by decide +kernel
theorem dX11_fitsOf_10 : decode cX11_fitsOf 10 = .ok (.iaload, 1) := by decide +kernel
theorem dX11_fitsOf_11 : decode cX11_fitsOf 11 = .ok (.if_icmp .ge 26, 3) := by decide +kernel
theorem dX11_fitsOf_14 : decode cX11_fitsOf 14 = .ok (.aload_n 0, 1) := by decide +kernel
theorem dX11_fitsOf_15 : decode cX11_fitsOf 15 = .ok (.iload_n 3, 1) := by decide +kernel
theorem dX11_fitsOf_16 : decode cX11_fitsOf 16 = .ok (.iload_n 1, 1) := by decide +kernel
theorem dX11_fitsOf_17 : decode cX11_fitsOf 17 = .ok (.invokevirtual 237, 3) := by decide +kernel
theorem dX11_fitsOf_20 : decode cX11_fitsOf 20 = .ok (.ldc 226, 2) := by decide +kernel
theorem dX11_fitsOf_22 : decode cX11_fitsOf 22 = .ok (.if_icmp .ge 9, 3) := by decide +kernel
theorem dX11_fitsOf_25 : decode cX11_fitsOf 25 = .ok (.iload_n 2, 1) := by decide +kernel
theorem dX11_fitsOf_26 : decode cX11_fitsOf 26 = .ok (.iconst 1, 1) := by decide +kernel
theorem dX11_fitsOf_27 : decode cX11_fitsOf 27 = .ok (.iload_n 3, 1) := by decide +kernel
theorem dX11_fitsOf_28 : decode cX11_fitsOf 28 = .ok (.ishl, 1) := by decide +kernel
theorem dX11_fitsOf_29 : decode cX11_fitsOf 29 = .ok (.ior, 1) := by decide +kernel
theorem dX11_fitsOf_30 : decode cX11_fitsOf 30 = .ok (.istore_n 2, 1) := by decide +kernel
theorem dX11_fitsOf_31 : decode cX11_fitsOf 31 = .ok (.iinc 3 1, 3) := by decide +kernel
theorem dX11_fitsOf_34 : decode cX11_fitsOf 34 = .ok (.goto (-30), 3) := by decide +kernel
theorem dX11_fitsOf_37 : decode cX11_fitsOf 37 = .ok (.iload_n 2, 1) := by decide +kernel
theorem dX11_fitsOf_38 : decode cX11_fitsOf 38 = .ok (.ireturn, 1) := by decide +kernel
def fX11_fitsOf_L4 (N : Nat) (v0 : Nat) (v1 : Int32) : Nat → Int32 → Int32 → Mem → Option (Int32 × Mem)
  | 0, _, _, _ => none
  | n + 1, v2, v3, M => ((fR M 11 v0 14).bind fun x6 => ((aI M x6 2).bind fun x10 => (if x10 ≤ v3 then some (v2, M) else (if mK M v0 = 12 then ((fX11_leastLacks N v0 v3 v1 M).bind fun (x17, M17) => (if ((100000)) ≤ x17 then fX11_fitsOf_L4 N v0 v1 n v2 (v3 + 1) M17 else fX11_fitsOf_L4 N v0 v1 n (v2 ||| (1 <<< (v3 &&& 31))) (v3 + 1) M17)) else none))))
def fX11_fitsOf (N : Nat) (v0 : Nat) (v1 : Int32) (M : Mem) : Option (Int32 × Mem) := ((fX11_fitsOf_L4 N v0 v1 N 0 0 M).bind fun o4 => some o4)
set_option maxHeartbeats 4000000 in
set_option maxRecDepth 100000 in
theorem k_X11_fitsOf (l : Launch) (b : Nat) (D : va_G) (cy : Nat → ClassId) (N : Nat) (v0 : Nat) (v1 : Int32) (M : Mem) (r : Int32) (Mf : Mem) (h : fX11_fitsOf N v0 v1 M = some (r, Mf)) : Ct l yX11_fitsOf cX11_fitsOf 4 (some .int) 5 0 0 b D cy [.ref (b + v0), .int v1] M (some (.int r)) Mf := by
  refine Ct_of (own := RX11) (by decide) rfl (Nat.le_of_ble_eq_true rfl) ?_
  intro p e s m args below meth c F hr hl hmn
  unfold fX11_fitsOf at h
  show X p l e ({ frames := 5, cells := 0, slots := 0, locals := 100 * 5 }) s m args below meth c (MQ below (Qm b D cy (some (.int r)) Mf) args s 0 0 (fun q => b ≤ q)) 4 b D cy 0 0 M 0 [(0, .ref (b + v0)), (1, .int v1)] []
  refine x_iconst F (v := 0) dX11_fitsOf_0 (by decide) ?_
  refine x_istore_n F (lv' := [(2, .int 0), (0, .ref (b + v0)), (1, .int v1)]) dX11_fitsOf_1 rfl (by decide) rfl ?_
  refine x_iconst F (v := 0) dX11_fitsOf_2 (by decide) ?_
  refine x_istore_n F (lv' := [(3, .int 0), (2, .int 0), (0, .ref (b + v0)), (1, .int v1)]) dX11_fitsOf_3 rfl (by decide) rfl ?_
  have L4 : ∀ (v0 : Nat) (v1 : Int32) (n : Nat) (v2 : Int32) (v3 : Int32) (M : Mem) (o : Int32 × Mem), fX11_fitsOf_L4 N v0 v1 n v2 v3 M = some o → (∀ (r' : Int32) (M' : Mem), o = (r', M') → r' = r ∧ M' = Mf) → X p l e ({ frames := 5, cells := 0, slots := 0, locals := 100 * 5 }) s m args below meth c (MQ below (Qm b D cy (some (.int r)) Mf) args s 0 0 (fun q => b ≤ q)) 4 b D cy 0 0 M 4 [(0, .ref (b + v0)), (1, .int v1), (2, .int v2), (3, .int v3)] [] := by
    intro v0 v1 n
    induction n with
    | zero => intro v2 v3 M o h; exact absurd h (by rw [fX11_fitsOf_L4]; exact fun z => by cases z)
    | succ n ih =>
      intro v2 v3 M o h hR
      rw [fX11_fitsOf_L4] at h
      refine x_iload_n F dX11_fitsOf_4 rfl 3 rfl ?_
      refine x_aload_n F dX11_fitsOf_5 rfl 0 rfl ?_
      obtain ⟨x6, c6, h⟩ := bdS h
      refine x_getR F (ci := 11) (C := RX11) (T := TX11) (N := 45) rfl ⟨by decide, rfl⟩ inU11 14 (by decide) (fun _ _ _ => rfl) wl_913 c6 dX11_fitsOf_6 ?_
      refine x_iconst F (v := 2) dX11_fitsOf_9 (by decide) ?_
      obtain ⟨x10, c10, h⟩ := bdS h
      refine x_aI F c10 dX11_fitsOf_10 ?_
      refine x_icmp_ge F (tgt := 37) dX11_fitsOf_11 (by decide) (fun c11 => ?_) (fun c11 => ?_)
      · rw [if_pos c11] at h
        refine x_iload_n F dX11_fitsOf_37 rfl 2 rfl ?_
        obtain rfl := Option.some.inj h
        obtain ⟨rfl, rfl⟩ := hR _ _ rfl
        exact x_iret F hr hl dX11_fitsOf_38
      · rw [if_neg c11] at h
        refine x_aload_n F dX11_fitsOf_14 rfl 0 rfl ?_
        refine x_iload_n F dX11_fitsOf_15 rfl 3 rfl ?_
        refine x_iload_n F dX11_fitsOf_16 rfl 1 rfl ?_
        obtain ⟨k17, h⟩ := gdS h
        obtain ⟨⟨x17, M17⟩, c17, h⟩ := bdS h
        dsimp only at h
        refine x_callV F (As := [.int v3, .int v1]) (rest := []) (res := (some (.int x17))) (ci := 11) (q := (RX11, TX11, 45)) rfl (by decide) k17 (k_X11_leastLacks l b D cy N v0 v3 v1 M _ _ c17) wl_1025 wl_1026 wl_1027 wl_854 wl_1024 hd_X11_leastLacks ⟨Nat.le_of_ble_eq_true rfl, Nat.le_of_ble_eq_true rfl⟩ ⟨Nat.le_refl _, Nat.le_refl _⟩ (Nat.le_of_ble_eq_true rfl) rfl dX11_fitsOf_17 ?_
        refine x_ldc F (v := (100000)) dX11_fitsOf_20 wl_1010 ?_
        refine x_icmp_ge F (tgt := 31) dX11_fitsOf_22 (by decide) (fun c22 => ?_) (fun c22 => ?_)
        · rw [if_pos c22] at h
          refine x_iinc F (v := v3 + 1) (lv' := [(3, .int (v3 + 1)), (0, .ref (b + v0)), (1, .int v1), (2, .int v2)]) dX11_fitsOf_31 3 rfl rfl (by decide) rfl ?_
          refine x_goto F (tgt := 4) dX11_fitsOf_34 (by decide) ?_
          refine x_sub [1, 2, 3, 0] rfl ?_
          exact ih v2 (v3 + 1) M17 o h hR
        · rw [if_neg c22] at h
          refine x_iload_n F dX11_fitsOf_25 rfl 2 rfl ?_
          refine x_iconst F (v := 1) dX11_fitsOf_26 (by decide) ?_
          refine x_iload_n F dX11_fitsOf_27 rfl 3 rfl ?_
          refine x_ishl F dX11_fitsOf_28 ?_
          refine x_ior F dX11_fitsOf_29 ?_
          refine x_istore_n F (lv' := [(2, .int (v2 ||| (1 <<< (v3 &&& 31)))), (0, .ref (b + v0)), (1, .int v1), (3, .int v3)]) dX11_fitsOf_30 rfl (by decide) rfl ?_
          refine x_iinc F (v := v3 + 1) (lv' := [(3, .int (v3 + 1)), (2, .int (v2 ||| (1 <<< (v3 &&& 31)))), (0, .ref (b + v0)), (1, .int v1)]) dX11_fitsOf_31 3 rfl rfl (by decide) rfl ?_
          refine x_goto F (tgt := 4) dX11_fitsOf_34 (by decide) ?_
          refine x_sub [2, 3, 1, 0] rfl ?_
          exact ih (v2 ||| (1 <<< (v3 &&& 31))) (v3 + 1) M17 o h hR
  obtain ⟨o4, h4, h⟩ := bdS h
  refine x_sub [2, 3, 1, 0] rfl ?_
  refine L4 v0 v1 N 0 0 M o4 h4 (fun r' M' e => ?_)
  · subst e
    try dsimp only at h
    obtain ⟨rfl, rfl⟩ := retS h; exact ⟨rfl, rfl⟩
theorem hd_X11_fitsOf : (yX11_fitsOf).cls = RX11 ∧ (yX11_fitsOf).cls ≠ "java/lang/invoke/MethodHandle" ∧ (yX11_fitsOf).cls ≠ "java/lang/invoke/VarHandle" ∧ (parseMethodDescriptor (yX11_fitsOf).desc).map (fun d => d.parameters.length) = some 1 := by decide +kernel
theorem dX11_fits_0 : decode cX11_fits 0 = .ok (.aload_n 0, 1) := by decide +kernel
theorem dX11_fits_1 : decode cX11_fits 1 = .ok (.iconst 0, 1) := by decide +kernel
theorem dX11_fits_2 : decode cX11_fits 2 = .ok (.putfield 1, 3) := by decide +kernel
theorem dX11_fits_5 : decode cX11_fits 5 = .ok (.aload_n 0, 1) := by decide +kernel
theorem dX11_fits_6 : decode cX11_fits 6 = .ok (.iload_n 1, 1) := by decide +kernel
theorem dX11_fits_7 : decode cX11_fits 7 = .ok (.invokevirtual 246, 3) := by decide +kernel
theorem dX11_fits_10 : decode cX11_fits 10 = .ok (.ifCond .eq 11, 3) := by decide +kernel
theorem dX11_fits_13 : decode cX11_fits 13 = .ok (.aload_n 0, 1) := by decide +kernel
theorem dX11_fits_14 : decode cX11_fits 14 = .ok (.iload_n 1, 1) := by decide +kernel
theorem dX11_fits_15 : decode cX11_fits 15 = .ok (.invokevirtual 302, 3) := by decide +kernel
theorem dX11_fits_18 : decode cX11_fits 18 = .ok (.goto 4, 3) := by decide +kernel
theorem dX11_fits_21 : decode cX11_fits 21 = .ok (.iconst (-1), 1) := by decide +kernel
theorem dX11_fits_22 : decode cX11_fits 22 = .ok (.ireturn, 1) := by decide +kernel
def fX11_fits (N : Nat) (v0 : Nat) (v1 : Int32) (M : Mem) : Option (Int32 × Mem) := ((pI M 11 v0 0 0).bind fun M2 => (if mK M2 v0 = 12 then ((fX11_isBand N v0 v1 M2).bind fun (x7, M7) => (if x7 = 0 then some ((-1), M7) else (if mK M7 v0 = 12 then ((fX11_fitsOf N v0 v1 M7).bind fun (x15, M15) => some (x15, M15)) else none))) else none))
set_option maxHeartbeats 4000000 in
set_option maxRecDepth 100000 in
theorem k_X11_fits (l : Launch) (b : Nat) (D : va_G) (cy : Nat → ClassId) (N : Nat) (v0 : Nat) (v1 : Int32) (M : Mem) (r : Int32) (Mf : Mem) (h : fX11_fits N v0 v1 M = some (r, Mf)) : Ct l yX11_fits cX11_fits 2 (some .int) 6 0 0 b D cy [.ref (b + v0), .int v1] M (some (.int r)) Mf := by
  refine Ct_of (own := RX11) (by decide) rfl (Nat.le_of_ble_eq_true rfl) ?_
  intro p e s m args below meth c F hr hl hmn
  unfold fX11_fits at h
  show X p l e ({ frames := 6, cells := 0, slots := 0, locals := 100 * 6 }) s m args below meth c (MQ below (Qm b D cy (some (.int r)) Mf) args s 0 0 (fun q => b ≤ q)) 2 b D cy 0 0 M 0 [(0, .ref (b + v0)), (1, .int v1)] []
  refine x_aload_n F dX11_fits_0 rfl 0 rfl ?_
  refine x_iconst F (v := 0) dX11_fits_1 (by decide) ?_
  obtain ⟨M2, c2, h⟩ := bdS h
  refine x_putI F (ci := 11) (C := RX11) (T := TX11) (N := 45) rfl ⟨by decide, rfl⟩ inU11 tyX11_ok nmX11 0 (by decide) rfl rfl wl_845 c2 dX11_fits_2 ?_
  refine x_aload_n F dX11_fits_5 rfl 0 rfl ?_
  refine x_iload_n F dX11_fits_6 rfl 1 rfl ?_
  obtain ⟨k7, h⟩ := gdS h
  obtain ⟨⟨x7, M7⟩, c7, h⟩ := bdS h
  dsimp only at h
  refine x_callV F (As := [.int v1]) (rest := []) (res := (some (.int x7))) (ci := 11) (q := (RX11, TX11, 45)) rfl (by decide) k7 (k_X11_isBand l b D cy N v0 v1 M2 _ _ c7) wl_1039 wl_1040 wl_1041 wl_854 wl_998 hd_X11_isBand ⟨Nat.le_of_ble_eq_true rfl, Nat.le_of_ble_eq_true rfl⟩ ⟨Nat.le_refl _, Nat.le_refl _⟩ (Nat.le_of_ble_eq_true rfl) rfl dX11_fits_7 ?_
  refine x_if_eq F (tgt := 21) dX11_fits_10 (by decide) (fun c10 => ?_) (fun c10 => ?_)
  · rw [if_pos c10] at h
    refine x_iconst F (v := (-1)) dX11_fits_21 (by decide) ?_
    obtain ⟨rfl, rfl⟩ := retS h
    exact x_iret F hr hl dX11_fits_22
  · rw [if_neg c10] at h
    refine x_aload_n F dX11_fits_13 rfl 0 rfl ?_
    refine x_iload_n F dX11_fits_14 rfl 1 rfl ?_
    obtain ⟨k15, h⟩ := gdS h
    obtain ⟨⟨x15, M15⟩, c15, h⟩ := bdS h
    dsimp only at h
    refine x_callV F (As := [.int v1]) (rest := []) (res := (some (.int x15))) (ci := 11) (q := (RX11, TX11, 45)) rfl (by decide) k15 (k_X11_fitsOf l b D cy N v0 v1 M7 _ _ c15) wl_1113 wl_1114 wl_1115 wl_854 wl_1112 hd_X11_fitsOf ⟨Nat.le_of_ble_eq_true rfl, Nat.le_of_ble_eq_true rfl⟩ ⟨Nat.le_refl _, Nat.le_refl _⟩ (Nat.le_of_ble_eq_true rfl) rfl dX11_fits_15 ?_
    refine x_goto F (tgt := 22) dX11_fits_18 (by decide) ?_
    obtain ⟨rfl, rfl⟩ := retS h
    exact x_iret F hr hl dX11_fits_22
theorem hd_X11_bits : (yX11_bits).cls = RX11 ∧ (yX11_bits).cls ≠ "java/lang/invoke/MethodHandle" ∧ (yX11_bits).cls ≠ "java/lang/invoke/VarHandle" ∧ (parseMethodDescriptor (yX11_bits).desc).map (fun d => d.parameters.length) = some 1 := by decide +kernel
theorem dX11_leftBy_0 : decode cX11_leftBy 0 = .ok (.bipush 55, 2) := by decide +kernel
theorem dX11_leftBy_2 : decode cX11_leftBy 2 = .ok (.bipush 12, 2) := by decide +kernel
theorem dX11_leftBy_4 : decode cX11_leftBy 4 = .ok (.iload_n 1, 1) := by decide +kernel
theorem dX11_leftBy_5 : decode cX11_leftBy 5 = .ok (.imul, 1) := by decide +kernel
theorem dX11_leftBy_6 : decode cX11_leftBy 6 = .ok (.iadd, 1) := by decide +kernel
theorem dX11_leftBy_7 : decode cX11_leftBy 7 = .ok (.iload_n 2, 1) := by decide +kernel
theorem dX11_leftBy_8 : decode cX11_leftBy 8 = .ok (.iadd, 1) := by decide +kernel
theorem dX11_leftBy_9 : decode cX11_leftBy 9 = .ok (.istore_n 3, 1) := by decide +kernel
theorem dX11_leftBy_10 : decode cX11_leftBy 10 = .ok (.iconst 0, 1) := by decide +kernel
theorem dX11_leftBy_11 : decode cX11_leftBy 11 = .ok (.istore 4, 2) := by decide +kernel
theorem dX11_leftBy_13 : decode cX11_leftBy 13 = .ok (.iconst 0, 1) := by decide +kernel
theorem dX11_leftBy_14 : decode cX11_leftBy 14 = .ok (.istore 5, 2) := by decide +kernel
theorem dX11_leftBy_16 : decode cX11_leftBy 16 = .ok (.iload 5, 2) := by decide +kernel
theorem dX11_leftBy_18 : decode cX11_leftBy 18 = .ok (.bipush 9, 2) := by decide +kernel
theorem dX11_leftBy_20 : decode cX11_leftBy 20 = .ok (.if_icmp .gt 38, 3) := by decide +kernel
theorem dX11_leftBy_23 : decode cX11_leftBy 23 = .ok (.aload_n 0, 1) := by decide +kernel
theorem dX11_leftBy_24 : decode cX11_leftBy 24 = .ok (.getfield 98, 3) := by decide +kernel
theorem dX11_leftBy_27 : decode cX11_leftBy 27 = .ok (.iload_n 3, 1) := by decide +kernel
theorem dX11_leftBy_28 : decode cX11_leftBy 28 = .ok (.iload 5, 2) := by decide +kernel
theorem dX11_leftBy_30 : decode cX11_leftBy 30 = .ok (.iastore, 1) := by decide +kernel
theorem dX11_leftBy_31 : decode cX11_leftBy 31 = .ok (.aload_n 0, 1) := by decide +kernel
theorem dX11_leftBy_32 : decode cX11_leftBy 32 = .ok (.iload_n 1, 1) := by decide +kernel
theorem dX11_leftBy_33 : decode cX11_leftBy 33 = .ok (.invokevirtual 302, 3) := by decide +kernel
theorem dX11_leftBy_36 : decode cX11_leftBy 36 = .ok (.invokestatic 305, 3) := by decide +kernel
theorem dX11_leftBy_39 : decode cX11_leftBy 39 = .ok (.istore 6, 2) := by decide +kernel
theorem dX11_leftBy_41 : decode cX11_leftBy 41 = .ok (.iload 6, 2) := by decide +kernel
theorem dX11_leftBy_43 : decode cX11_leftBy 43 = .ok (.iload 4, 2) := by decide +kernel
theorem dX11_leftBy_45 : decode cX11_leftBy 45 = .ok (.if_icmp .le 7, 3) := by decide +kernel
theorem dX11_leftBy_48 : decode cX11_leftBy 48 = .ok (.iload 6, 2) := by decide +kernel
theorem dX11_leftBy_50 : decode cX11_leftBy 50 = .ok (.istore 4, 2) := by decide +kernel
theorem dX11_leftBy_52 : decode cX11_leftBy 52 = .ok (.iinc 5 1, 3) := by decide +kernel
theorem dX11_leftBy_55 : decode cX11_leftBy 55 = .ok (.goto (-39), 3) := by decide +kernel
theorem dX11_leftBy_58 : decode cX11_leftBy 58 = .ok (.aload_n 0, 1) := by decide +kernel
theorem dX11_leftBy_59 : decode cX11_leftBy 59 = .ok (.getfield 98, 3) := by decide +kernel
theorem dX11_leftBy_62 : decode cX11_leftBy 62 = .ok (.iload_n 3, 1) := by decide +kernel
theorem dX11_leftBy_63 : decode cX11_leftBy 63 = .ok (.iconst (-1), 1) := by decide +kernel
theorem dX11_leftBy_64 : decode cX11_leftBy 64 = .ok (.iastore, 1) := by decide +kernel
theorem dX11_leftBy_65 : decode cX11_leftBy 65 = .ok (.iload 4, 2) := by decide +kernel
theorem dX11_leftBy_67 : decode cX11_leftBy 67 = .ok (.ireturn, 1) := by decide +kernel
def fX11_leftBy_L16 (N : Nat) (v0 : Nat) (v1 : Int32) (v3 : Int32) : Nat → Int32 → Int32 → Mem → Option (Int32 × Mem)
  | 0, _, _, _ => none
  | n + 1, v4, v5, M => (if 9 < v5 then some (v4, M) else ((fR M 11 v0 14).bind fun x24 => ((tI M x24 v3 v5).bind fun M30 => (if mK M30 v0 = 12 then ((fX11_fitsOf N v0 v1 M30).bind fun (x33, M33) => ((fX11_bits N x33 M33).bind fun (x36, M36) => (if x36 ≤ v4 then fX11_leftBy_L16 N v0 v1 v3 n v4 (v5 + 1) M36 else fX11_leftBy_L16 N v0 v1 v3 n x36 (v5 + 1) M36))) else none))))
def fX11_leftBy (N : Nat) (v0 : Nat) (v1 : Int32) (v2 : Int32) (M : Mem) : Option (Int32 × Mem) := ((fX11_leftBy_L16 N v0 v1 ((55 + (12 * v1)) + v2) N 0 0 M).bind fun o16 => match o16 with | (w4_16, M16) => ((fR M16 11 v0 14).bind fun x59 => ((tI M16 x59 ((55 + (12 * v1)) + v2) ((-1))).bind fun M64 => some (w4_16, M64))))
set_option maxHeartbeats 4000000 in
set_option maxRecDepth 100000 in
theorem k_X11_leftBy (l : Launch) (b : Nat) (D : va_G) (cy : Nat → ClassId) (N : Nat) (v0 : Nat) (v1 : Int32) (v2 : Int32) (M : Mem) (r : Int32) (Mf : Mem) (h : fX11_leftBy N v0 v1 v2 M = some (r, Mf)) : Ct l yX11_leftBy cX11_leftBy 7 (some .int) 6 0 0 b D cy [.ref (b + v0), .int v1, .int v2] M (some (.int r)) Mf := by
  refine Ct_of (own := RX11) (by decide) rfl (Nat.le_of_ble_eq_true rfl) ?_
  intro p e s m args below meth c F hr hl hmn
  unfold fX11_leftBy at h
  show X p l e ({ frames := 6, cells := 0, slots := 0, locals := 100 * 6 }) s m args below meth c (MQ below (Qm b D cy (some (.int r)) Mf) args s 0 0 (fun q => b ≤ q)) 7 b D cy 0 0 M 0 [(0, .ref (b + v0)), (1, .int v1), (2, .int v2)] []
  refine x_bipush F (v := 55) dX11_leftBy_0 (by decide) ?_
  refine x_bipush F (v := 12) dX11_leftBy_2 (by decide) ?_
  refine x_iload_n F dX11_leftBy_4 rfl 1 rfl ?_
  refine x_imul F dX11_leftBy_5 ?_
  refine x_iadd F dX11_leftBy_6 ?_
  refine x_iload_n F dX11_leftBy_7 rfl 2 rfl ?_
  refine x_iadd F dX11_leftBy_8 ?_
  refine x_istore_n F (lv' := [(3, .int ((55 + (12 * v1)) + v2)), (0, .ref (b + v0)), (1, .int v1), (2, .int v2)]) dX11_leftBy_9 rfl (by decide) rfl ?_
  refine x_iconst F (v := 0) dX11_leftBy_10 (by decide) ?_
  refine x_istore F (lv' := [(4, .int 0), (3, .int ((55 + (12 * v1)) + v2)), (0, .ref (b + v0)), (1, .int v1), (2, .int v2)]) dX11_leftBy_11 (by decide) rfl ?_
  refine x_iconst F (v := 0) dX11_leftBy_13 (by decide) ?_
  refine x_istore F (lv' := [(5, .int 0), (4, .int 0), (3, .int ((55 + (12 * v1)) + v2)), (0, .ref (b + v0)), (1, .int v1), (2, .int v2)]) dX11_leftBy_14 (by decide) rfl ?_
  have L16 : ∀ (v0 : Nat) (v1 : Int32) (v3 : Int32) (n : Nat) (v4 : Int32) (v5 : Int32) (M : Mem) (o : Int32 × Mem), fX11_leftBy_L16 N v0 v1 v3 n v4 v5 M = some o → (∀ (w4 : Int32) (M' : Mem), o = (w4, M') → X p l e ({ frames := 6, cells := 0, slots := 0, locals := 100 * 6 }) s m args below meth c (MQ below (Qm b D cy (some (.int r)) Mf) args s 0 0 (fun q => b ≤ q)) 7 b D cy 0 0 M' 58 [(0, .ref (b + v0)), (3, .int v3), (4, .int w4)] []) → X p l e ({ frames := 6, cells := 0, slots := 0, locals := 100 * 6 }) s m args below meth c (MQ below (Qm b D cy (some (.int r)) Mf) args s 0 0 (fun q => b ≤ q)) 7 b D cy 0 0 M 16 [(0, .ref (b + v0)), (1, .int v1), (3, .int v3), (4, .int v4), (5, .int v5)] [] := by
    intro v0 v1 v3 n
    induction n with
    | zero => intro v4 v5 M o h; exact absurd h (by rw [fX11_leftBy_L16]; exact fun z => by cases z)
    | succ n ih =>
      intro v4 v5 M o h hE
      rw [fX11_leftBy_L16] at h
      refine x_iload F dX11_leftBy_16 4 rfl ?_
      refine x_bipush F (v := 9) dX11_leftBy_18 (by decide) ?_
      refine x_icmp_gt F (tgt := 58) dX11_leftBy_20 (by decide) (fun c20 => ?_) (fun c20 => ?_)
      · rw [if_pos c20] at h
        obtain rfl := Option.some.inj h
        refine x_sub [0, 2, 3] rfl ?_
        exact hE _ _ rfl
      · rw [if_neg c20] at h
        refine x_aload_n F dX11_leftBy_23 rfl 0 rfl ?_
        obtain ⟨x24, c24, h⟩ := bdS h
        refine x_getR F (ci := 11) (C := RX11) (T := TX11) (N := 45) rfl ⟨by decide, rfl⟩ inU11 14 (by decide) (fun _ _ _ => rfl) wl_913 c24 dX11_leftBy_24 ?_
        refine x_iload_n F dX11_leftBy_27 rfl 2 rfl ?_
        refine x_iload F dX11_leftBy_28 4 rfl ?_
        obtain ⟨M30, c30, h⟩ := bdS h
        refine x_tI F c30 dX11_leftBy_30 ?_
        refine x_aload_n F dX11_leftBy_31 rfl 0 rfl ?_
        refine x_iload_n F dX11_leftBy_32 rfl 1 rfl ?_
        obtain ⟨k33, h⟩ := gdS h
        obtain ⟨⟨x33, M33⟩, c33, h⟩ := bdS h
        dsimp only at h
        refine x_callV F (As := [.int v1]) (rest := []) (res := (some (.int x33))) (ci := 11) (q := (RX11, TX11, 45)) rfl (by decide) k33 (k_X11_fitsOf l b D cy N v0 v1 M30 _ _ c33) wl_1113 wl_1114 wl_1115 wl_854 wl_1112 hd_X11_fitsOf ⟨Nat.le_of_ble_eq_true rfl, Nat.le_of_ble_eq_true rfl⟩ ⟨Nat.le_refl _, Nat.le_refl _⟩ (Nat.le_of_ble_eq_true rfl) rfl dX11_leftBy_33 ?_
        obtain ⟨⟨x36, M36⟩, c36, h⟩ := bdS h
        dsimp only at h
        refine x_callS F (As := [.int x33]) (rest := []) (res := (some (.int x36))) (k_X11_bits l b D cy N x33 M33 _ _ c36) wl_1117 wl_1118 wl_854 wl_859 (hd_X11_bits).2 ⟨Nat.le_of_ble_eq_true rfl, Nat.le_of_ble_eq_true rfl⟩ ⟨Nat.le_refl _, Nat.le_refl _⟩ (Nat.le_of_ble_eq_true rfl) rfl dX11_leftBy_36 ?_
        refine x_istore F (lv' := [(6, .int x36), (0, .ref (b + v0)), (1, .int v1), (3, .int v3), (4, .int v4), (5, .int v5)]) dX11_leftBy_39 (by decide) rfl ?_
        refine x_iload F dX11_leftBy_41 0 rfl ?_
        refine x_iload F dX11_leftBy_43 4 rfl ?_
        refine x_icmp_le F (tgt := 52) dX11_leftBy_45 (by decide) (fun c45 => ?_) (fun c45 => ?_)
        · rw [if_pos c45] at h
          refine x_iinc F (v := v5 + 1) (lv' := [(5, .int (v5 + 1)), (6, .int x36), (0, .ref (b + v0)), (1, .int v1), (3, .int v3), (4, .int v4)]) dX11_leftBy_52 5 rfl rfl (by decide) rfl ?_
          refine x_goto F (tgt := 16) dX11_leftBy_55 (by decide) ?_
          refine x_sub [2, 3, 4, 5, 0] rfl ?_
          exact ih v4 (v5 + 1) M36 o h hE
        · rw [if_neg c45] at h
          refine x_iload F dX11_leftBy_48 0 rfl ?_
          refine x_istore F (lv' := [(4, .int x36), (6, .int x36), (0, .ref (b + v0)), (1, .int v1), (3, .int v3), (5, .int v5)]) dX11_leftBy_50 (by decide) rfl ?_
          refine x_iinc F (v := v5 + 1) (lv' := [(5, .int (v5 + 1)), (4, .int x36), (6, .int x36), (0, .ref (b + v0)), (1, .int v1), (3, .int v3)]) dX11_leftBy_52 5 rfl rfl (by decide) rfl ?_
          refine x_goto F (tgt := 16) dX11_leftBy_55 (by decide) ?_
          refine x_sub [3, 4, 5, 1, 0] rfl ?_
          exact ih x36 (v5 + 1) M36 o h hE
  obtain ⟨o16, h16, h⟩ := bdS h
  refine x_sub [3, 4, 2, 1, 0] rfl ?_
  refine L16 v0 v1 ((55 + (12 * v1)) + v2) N 0 0 M o16 h16 (fun w4_16 M16 e => ?_)
  · subst e
    dsimp only at h
    refine x_aload_n F dX11_leftBy_58 rfl 0 rfl ?_
    obtain ⟨x59, c59, h⟩ := bdS h
    refine x_getR F (ci := 11) (C := RX11) (T := TX11) (N := 45) rfl ⟨by decide, rfl⟩ inU11 14 (by decide) (fun _ _ _ => rfl) wl_913 c59 dX11_leftBy_59 ?_
    refine x_iload_n F dX11_leftBy_62 rfl 1 rfl ?_
    refine x_iconst F (v := (-1)) dX11_leftBy_63 (by decide) ?_
    obtain ⟨M64, c64, h⟩ := bdS h
    refine x_tI F c64 dX11_leftBy_64 ?_
    refine x_iload F dX11_leftBy_65 2 rfl ?_
    obtain ⟨rfl, rfl⟩ := retS h
    exact x_iret F hr hl dX11_leftBy_67
theorem hd_X11_leftBy : (yX11_leftBy).cls = RX11 ∧ (yX11_leftBy).cls ≠ "java/lang/invoke/MethodHandle" ∧ (yX11_leftBy).cls ≠ "java/lang/invoke/VarHandle" ∧ (parseMethodDescriptor (yX11_leftBy).desc).map (fun d => d.parameters.length) = some 2 := by decide +kernel
theorem dX11_ask_0 : decode cX11_ask 0 = .ok (.aload_n 0, 1) := by decide +kernel
theorem dX11_ask_1 : decode cX11_ask 1 = .ok (.iconst 0, 1) := by decide +kernel
theorem dX11_ask_2 : decode cX11_ask 2 = .ok (.putfield 1, 3) := by decide +kernel
theorem dX11_ask_5 : decode cX11_ask 5 = .ok (.aload_n 0, 1) := by decide +kernel
theorem dX11_ask_6 : decode cX11_ask 6 = .ok (.iload_n 1, 1) := by decide +kernel
theorem dX11_ask_7 : decode cX11_ask 7 = .ok (.invokevirtual 246, 3) := by decide +kernel
theorem dX11_ask_10 : decode cX11_ask 10 = .ok (.ifCond .eq 11, 3) := by decide +kernel
theorem dX11_ask_13 : decode cX11_ask 13 = .ok (.aload_n 0, 1) := by decide +kernel
theorem dX11_ask_14 : decode cX11_ask 14 = .ok (.iload_n 1, 1) := by decide +kernel
theorem dX11_ask_15 : decode cX11_ask 15 = .ok (.invokevirtual 302, 3) := by decide +kernel
theorem dX11_ask_18 : decode cX11_ask 18 = .ok (.ifCond .ne 5, 3) := by decide +kernel
theorem dX11_ask_21 : decode cX11_ask 21 = .ok (.iconst (-1), 1) := by decide +kernel
theorem dX11_ask_22 : decode cX11_ask 22 = .ok (.ireturn, 1) := by decide +kernel
theorem dX11_ask_23 : decode cX11_ask 23 = .ok (.iconst (-1), 1) := by decide +kernel
theorem dX11_ask_24 : decode cX11_ask 24 = .ok (.istore_n 2, 1) := by decide +kernel
theorem dX11_ask_25 : decode cX11_ask 25 = .ok (.ldc 226, 2) := by decide +kernel
theorem dX11_ask_27 : decode cX11_ask 27 = .ok (.istore_n 3, 1) := by decide +kernel
theorem dX11_ask_28 : decode cX11_ask 28 = .ok (.iconst 0, 1) := by decide +kernel
theorem dX11_ask_29 : decode cX11_ask 29 = .ok (.istore 4, 2) := by decide +kernel
theorem dX11_ask_31 : decode cX11_ask 31 = .ok (.iload 4, 2) := by decide +kernel
theorem dX11_ask_33 : decode cX11_ask 33 = .ok (.aload_n 0, 1) := by decide +kernel
theorem dX11_ask_34 : decode cX11_ask 34 = .ok (.getfield 98, 3) := by decide +kernel
theorem dX11_ask_37 : decode cX11_ask 37 = .ok (.bipush 11, 2) := by decide +kernel
theorem dX11_ask_39 : decode cX11_ask 39 = .ok (.iload_n 1, 1) := by decide +kernel
theorem dX11_ask_40 : decode cX11_ask 40 = .ok (.iadd, 1) := by decide +kernel
theorem dX11_ask_41 : decode cX11_ask 41 = .ok (.iaload, 1) := by decide +kernel
theorem dX11_ask_42 : decode cX11_ask 42 = .ok (.if_icmp .ge 47, 3) := by decide +kernel
theorem dX11_ask_45 : decode cX11_ask 45 = .ok (.aload_n 0, 1) := by decide +kernel
theorem dX11_ask_46 : decode cX11_ask 46 = .ok (.iload_n 1, 1) := by decide +kernel
theorem dX11_ask_47 : decode cX11_ask 47 = .ok (.iload 4, 2) := by decide +kernel
theorem dX11_ask_49 : decode cX11_ask 49 = .ok (.invokevirtual 219, 3) := by decide +kernel
theorem dX11_ask_52 : decode cX11_ask 52 = .ok (.iconst (-1), 1) := by decide +kernel
theorem dX11_ask_53 : decode cX11_ask 53 = .ok (.if_icmp .eq 6, 3) := by decide +kernel
theorem dX11_ask_56 : decode cX11_ask 56 = .ok (.goto 27, 3) := by decide +kernel
theorem dX11_ask_59 : decode cX11_ask 59 = .ok (.aload_n 0, 1) := by decide +kernel
theorem dX11_ask_60 : decode cX11_ask 60 = .ok (.iload_n 1, 1) := by decide +kernel
theorem dX11_ask_61 : decode cX11_ask 61 = .ok (.iload 4, 2) := by decide +kernel
theorem dX11_ask_63 : decode cX11_ask 63 = .ok (.invokevirtual 308, 3) := by decide +kernel
theorem dX11_ask_66 : decode cX11_ask 66 = .ok (.istore 5, 2) := by decide +kernel
theorem dX11_ask_68 : decode cX11_ask 68 = .ok (.iload 5, 2) := by decide +kernel
theorem dX11_ask_70 : decode cX11_ask 70 = .ok (.iload_n 3, 1) := by decide +kernel
theorem dX11_ask_71 : decode cX11_ask 71 = .ok (.if_icmp .lt 6, 3) := by decide +kernel
theorem dX11_ask_74 : decode cX11_ask 74 = .ok (.goto 9, 3) := by decide +kernel
theorem dX11_ask_77 : decode cX11_ask 77 = .ok (.iload 5, 2) := by decide +kernel
theorem dX11_ask_79 : decode cX11_ask 79 = .ok (.istore_n 3, 1) := by decide +kernel
theorem dX11_ask_80 : decode cX11_ask 80 = .ok (.iload 4, 2) := by decide +kernel
theorem dX11_ask_82 : decode cX11_ask 82 = .ok (.istore_n 2, 1) := by decide +kernel
theorem dX11_ask_83 : decode cX11_ask 83 = .ok (.iinc 4 1, 3) := by decide +kernel
theorem dX11_ask_86 : decode cX11_ask 86 = .ok (.goto (-55), 3) := by decide +kernel
theorem dX11_ask_89 : decode cX11_ask 89 = .ok (.iload_n 2, 1) := by decide +kernel
theorem dX11_ask_90 : decode cX11_ask 90 = .ok (.ireturn, 1) := by decide +kernel
def fX11_ask_L31 (N : Nat) (v0 : Nat) (v1 : Int32) : Nat → Int32 → Int32 → Int32 → Mem → Option (Int32 × Mem)
  | 0, _, _, _, _ => none
  | n + 1, v2, v3, v4, M => ((fR M 11 v0 14).bind fun x34 => ((aI M x34 (11 + v1)).bind fun x41 => (if x41 ≤ v4 then some (v2, M) else (if mK M v0 = 12 then ((fX11_signAt N v0 v1 v4 M).bind fun (x49, M49) => (if x49 = ((-1)) then (if mK M49 v0 = 12 then ((fX11_leftBy N v0 v1 v4 M49).bind fun (x63, M63) => (if x63 < v3 then fX11_ask_L31 N v0 v1 n v4 x63 (v4 + 1) M63 else fX11_ask_L31 N v0 v1 n v2 v3 (v4 + 1) M63)) else none) else fX11_ask_L31 N v0 v1 n v2 v3 (v4 + 1) M49)) else none))))
def fX11_ask (N : Nat) (v0 : Nat) (v1 : Int32) (M : Mem) : Option (Int32 × Mem) := ((pI M 11 v0 0 0).bind fun M2 => (if mK M2 v0 = 12 then ((fX11_isBand N v0 v1 M2).bind fun (x7, M7) => (if x7 = 0 then some ((-1), M7) else (if mK M7 v0 = 12 then ((fX11_fitsOf N v0 v1 M7).bind fun (x15, M15) => (if x15 = 0 then some ((-1), M15) else ((fX11_ask_L31 N v0 v1 N ((-1)) ((100000)) 0 M15).bind fun o31 => some o31))) else none))) else none))
set_option maxHeartbeats 4000000 in
set_option maxRecDepth 100000 in
theorem k_X11_ask (l : Launch) (b : Nat) (D : va_G) (cy : Nat → ClassId) (N : Nat) (v0 : Nat) (v1 : Int32) (M : Mem) (r : Int32) (Mf : Mem) (h : fX11_ask N v0 v1 M = some (r, Mf)) : Ct l yX11_ask cX11_ask 6 (some .int) 7 0 0 b D cy [.ref (b + v0), .int v1] M (some (.int r)) Mf := by
  refine Ct_of (own := RX11) (by decide) rfl (Nat.le_of_ble_eq_true rfl) ?_
  intro p e s m args below meth c F hr hl hmn
  unfold fX11_ask at h
  show X p l e ({ frames := 7, cells := 0, slots := 0, locals := 100 * 7 }) s m args below meth c (MQ below (Qm b D cy (some (.int r)) Mf) args s 0 0 (fun q => b ≤ q)) 6 b D cy 0 0 M 0 [(0, .ref (b + v0)), (1, .int v1)] []
  refine x_aload_n F dX11_ask_0 rfl 0 rfl ?_
  refine x_iconst F (v := 0) dX11_ask_1 (by decide) ?_
  obtain ⟨M2, c2, h⟩ := bdS h
  refine x_putI F (ci := 11) (C := RX11) (T := TX11) (N := 45) rfl ⟨by decide, rfl⟩ inU11 tyX11_ok nmX11 0 (by decide) rfl rfl wl_845 c2 dX11_ask_2 ?_
  refine x_aload_n F dX11_ask_5 rfl 0 rfl ?_
  refine x_iload_n F dX11_ask_6 rfl 1 rfl ?_
  obtain ⟨k7, h⟩ := gdS h
  obtain ⟨⟨x7, M7⟩, c7, h⟩ := bdS h
  dsimp only at h
  refine x_callV F (As := [.int v1]) (rest := []) (res := (some (.int x7))) (ci := 11) (q := (RX11, TX11, 45)) rfl (by decide) k7 (k_X11_isBand l b D cy N v0 v1 M2 _ _ c7) wl_1039 wl_1040 wl_1041 wl_854 wl_998 hd_X11_isBand ⟨Nat.le_of_ble_eq_true rfl, Nat.le_of_ble_eq_true rfl⟩ ⟨Nat.le_refl _, Nat.le_refl _⟩ (Nat.le_of_ble_eq_true rfl) rfl dX11_ask_7 ?_
  refine x_if_eq F (tgt := 21) dX11_ask_10 (by decide) (fun c10 => ?_) (fun c10 => ?_)
  · rw [if_pos c10] at h
    refine x_iconst F (v := (-1)) dX11_ask_21 (by decide) ?_
    obtain ⟨rfl, rfl⟩ := retS h
    exact x_iret F hr hl dX11_ask_22
  · rw [if_neg c10] at h
    refine x_aload_n F dX11_ask_13 rfl 0 rfl ?_
    refine x_iload_n F dX11_ask_14 rfl 1 rfl ?_
    obtain ⟨k15, h⟩ := gdS h
    obtain ⟨⟨x15, M15⟩, c15, h⟩ := bdS h
    dsimp only at h
    refine x_callV F (As := [.int v1]) (rest := []) (res := (some (.int x15))) (ci := 11) (q := (RX11, TX11, 45)) rfl (by decide) k15 (k_X11_fitsOf l b D cy N v0 v1 M7 _ _ c15) wl_1113 wl_1114 wl_1115 wl_854 wl_1112 hd_X11_fitsOf ⟨Nat.le_of_ble_eq_true rfl, Nat.le_of_ble_eq_true rfl⟩ ⟨Nat.le_refl _, Nat.le_refl _⟩ (Nat.le_of_ble_eq_true rfl) rfl dX11_ask_15 ?_
    refine x_if_ne F (tgt := 23) dX11_ask_18 (by decide) (fun c18 => ?_) (fun c18 => ?_)
    · rw [if_neg c18] at h
      refine x_iconst F (v := (-1)) dX11_ask_23 (by decide) ?_
      refine x_istore_n F (lv' := [(2, .int ((-1))), (0, .ref (b + v0)), (1, .int v1)]) dX11_ask_24 rfl (by decide) rfl ?_
      refine x_ldc F (v := (100000)) dX11_ask_25 wl_1010 ?_
      refine x_istore_n F (lv' := [(3, .int ((100000))), (2, .int ((-1))), (0, .ref (b + v0)), (1, .int v1)]) dX11_ask_27 rfl (by decide) rfl ?_
      refine x_iconst F (v := 0) dX11_ask_28 (by decide) ?_
      refine x_istore F (lv' := [(4, .int 0), (3, .int ((100000))), (2, .int ((-1))), (0, .ref (b + v0)), (1, .int v1)]) dX11_ask_29 (by decide) rfl ?_
      have L31 : ∀ (v0 : Nat) (v1 : Int32) (n : Nat) (v2 : Int32) (v3 : Int32) (v4 : Int32) (M : Mem) (o : Int32 × Mem), fX11_ask_L31 N v0 v1 n v2 v3 v4 M = some o → (∀ (r' : Int32) (M' : Mem), o = (r', M') → r' = r ∧ M' = Mf) → X p l e ({ frames := 7, cells := 0, slots := 0, locals := 100 * 7 }) s m args below meth c (MQ below (Qm b D cy (some (.int r)) Mf) args s 0 0 (fun q => b ≤ q)) 6 b D cy 0 0 M 31 [(0, .ref (b + v0)), (1, .int v1), (2, .int v2), (3, .int v3), (4, .int v4)] [] := by
        intro v0 v1 n
        induction n with
        | zero => intro v2 v3 v4 M o h; exact absurd h (by rw [fX11_ask_L31]; exact fun z => by cases z)
        | succ n ih =>
          intro v2 v3 v4 M o h hR
          rw [fX11_ask_L31] at h
          refine x_iload F dX11_ask_31 4 rfl ?_
          refine x_aload_n F dX11_ask_33 rfl 0 rfl ?_
          obtain ⟨x34, c34, h⟩ := bdS h
          refine x_getR F (ci := 11) (C := RX11) (T := TX11) (N := 45) rfl ⟨by decide, rfl⟩ inU11 14 (by decide) (fun _ _ _ => rfl) wl_913 c34 dX11_ask_34 ?_
          refine x_bipush F (v := 11) dX11_ask_37 (by decide) ?_
          refine x_iload_n F dX11_ask_39 rfl 1 rfl ?_
          refine x_iadd F dX11_ask_40 ?_
          obtain ⟨x41, c41, h⟩ := bdS h
          refine x_aI F c41 dX11_ask_41 ?_
          refine x_icmp_ge F (tgt := 89) dX11_ask_42 (by decide) (fun c42 => ?_) (fun c42 => ?_)
          · rw [if_pos c42] at h
            refine x_iload_n F dX11_ask_89 rfl 2 rfl ?_
            obtain rfl := Option.some.inj h
            obtain ⟨rfl, rfl⟩ := hR _ _ rfl
            exact x_iret F hr hl dX11_ask_90
          · rw [if_neg c42] at h
            refine x_aload_n F dX11_ask_45 rfl 0 rfl ?_
            refine x_iload_n F dX11_ask_46 rfl 1 rfl ?_
            refine x_iload F dX11_ask_47 4 rfl ?_
            obtain ⟨k49, h⟩ := gdS h
            obtain ⟨⟨x49, M49⟩, c49, h⟩ := bdS h
            dsimp only at h
            refine x_callV F (As := [.int v1, .int v4]) (rest := []) (res := (some (.int x49))) (ci := 11) (q := (RX11, TX11, 45)) rfl (by decide) k49 (k_X11_signAt l b D cy N v0 v1 v4 M _ _ c49) wl_1011 wl_1012 wl_1013 wl_854 wl_1002 hd_X11_signAt ⟨Nat.le_of_ble_eq_true rfl, Nat.le_of_ble_eq_true rfl⟩ ⟨Nat.le_refl _, Nat.le_refl _⟩ (Nat.le_of_ble_eq_true rfl) rfl dX11_ask_49 ?_
            refine x_iconst F (v := (-1)) dX11_ask_52 (by decide) ?_
            refine x_icmp_eq F (tgt := 59) dX11_ask_53 (by decide) (fun c53 => ?_) (fun c53 => ?_)
            · rw [if_pos c53] at h
              refine x_aload_n F dX11_ask_59 rfl 0 rfl ?_
              refine x_iload_n F dX11_ask_60 rfl 1 rfl ?_
              refine x_iload F dX11_ask_61 4 rfl ?_
              obtain ⟨k63, h⟩ := gdS h
              obtain ⟨⟨x63, M63⟩, c63, h⟩ := bdS h
              dsimp only at h
              refine x_callV F (As := [.int v1, .int v4]) (rest := []) (res := (some (.int x63))) (ci := 11) (q := (RX11, TX11, 45)) rfl (by decide) k63 (k_X11_leftBy l b D cy N v0 v1 v4 M49 _ _ c63) wl_1120 wl_1121 wl_1122 wl_854 wl_1119 hd_X11_leftBy ⟨Nat.le_of_ble_eq_true rfl, Nat.le_of_ble_eq_true rfl⟩ ⟨Nat.le_refl _, Nat.le_refl _⟩ (Nat.le_of_ble_eq_true rfl) rfl dX11_ask_63 ?_
              refine x_istore F (lv' := [(5, .int x63), (0, .ref (b + v0)), (1, .int v1), (2, .int v2), (3, .int v3), (4, .int v4)]) dX11_ask_66 (by decide) rfl ?_
              refine x_iload F dX11_ask_68 0 rfl ?_
              refine x_iload_n F dX11_ask_70 rfl 4 rfl ?_
              refine x_icmp_lt F (tgt := 77) dX11_ask_71 (by decide) (fun c71 => ?_) (fun c71 => ?_)
              · rw [if_pos c71] at h
                refine x_iload F dX11_ask_77 0 rfl ?_
                refine x_istore_n F (lv' := [(3, .int x63), (5, .int x63), (0, .ref (b + v0)), (1, .int v1), (2, .int v2), (4, .int v4)]) dX11_ask_79 rfl (by decide) rfl ?_
                refine x_iload F dX11_ask_80 5 rfl ?_
                refine x_istore_n F (lv' := [(2, .int v4), (3, .int x63), (5, .int x63), (0, .ref (b + v0)), (1, .int v1), (4, .int v4)]) dX11_ask_82 rfl (by decide) rfl ?_
                refine x_iinc F (v := v4 + 1) (lv' := [(4, .int (v4 + 1)), (2, .int v4), (3, .int x63), (5, .int x63), (0, .ref (b + v0)), (1, .int v1)]) dX11_ask_83 5 rfl rfl (by decide) rfl ?_
                refine x_goto F (tgt := 31) dX11_ask_86 (by decide) ?_
                refine x_sub [4, 5, 1, 2, 0] rfl ?_
                exact ih v4 x63 (v4 + 1) M63 o h hR
              · rw [if_neg c71] at h
                refine x_goto F (tgt := 83) dX11_ask_74 (by decide) ?_
                refine x_iinc F (v := v4 + 1) (lv' := [(4, .int (v4 + 1)), (5, .int x63), (0, .ref (b + v0)), (1, .int v1), (2, .int v2), (3, .int v3)]) dX11_ask_83 5 rfl rfl (by decide) rfl ?_
                refine x_goto F (tgt := 31) dX11_ask_86 (by decide) ?_
                refine x_sub [2, 3, 4, 5, 0] rfl ?_
                exact ih v2 v3 (v4 + 1) M63 o h hR
            · rw [if_neg c53] at h
              refine x_goto F (tgt := 83) dX11_ask_56 (by decide) ?_
              refine x_iinc F (v := v4 + 1) (lv' := [(4, .int (v4 + 1)), (0, .ref (b + v0)), (1, .int v1), (2, .int v2), (3, .int v3)]) dX11_ask_83 4 rfl rfl (by decide) rfl ?_
              refine x_goto F (tgt := 31) dX11_ask_86 (by decide) ?_
              refine x_sub [1, 2, 3, 4, 0] rfl ?_
              exact ih v2 v3 (v4 + 1) M49 o h hR
      obtain ⟨o31, h31, h⟩ := bdS h
      refine x_sub [3, 4, 2, 1, 0] rfl ?_
      refine L31 v0 v1 N ((-1)) ((100000)) 0 M15 o31 h31 (fun r' M' e => ?_)
      · subst e
        try dsimp only at h
        obtain ⟨rfl, rfl⟩ := retS h; exact ⟨rfl, rfl⟩
    · rw [if_pos c18] at h
      refine x_iconst F (v := (-1)) dX11_ask_21 (by decide) ?_
      obtain ⟨rfl, rfl⟩ := retS h
      exact x_iret F hr hl dX11_ask_22
theorem dX11_washedBy_0 : decode cX11_washedBy 0 = .ok (.iload_n 2, 1) := by decide +kernel
theorem dX11_washedBy_1 : decode cX11_washedBy 1 = .ok (.istore 4, 2) := by decide +kernel
theorem dX11_washedBy_3 : decode cX11_washedBy 3 = .ok (.iload 4, 2) := by decide +kernel
theorem dX11_washedBy_5 : decode cX11_washedBy 5 = .ok (.iload_n 3, 1) := by decide +kernel
theorem dX11_washedBy_6 : decode cX11_washedBy 6 = .ok (.if_icmp .ge 19, 3) := by decide +kernel
theorem dX11_washedBy_9 : decode cX11_washedBy 9 = .ok (.aload_n 0, 1) := by decide +kernel
theorem dX11_washedBy_10 : decode cX11_washedBy 10 = .ok (.iload_n 1, 1) := by decide +kernel
theorem dX11_washedBy_11 : decode cX11_washedBy 11 = .ok (.iload 4, 2) := by decide +kernel
theorem dX11_washedBy_13 : decode cX11_washedBy 13 = .ok (.invokevirtual 287, 3) := by decide +kernel
theorem dX11_washedBy_16 : decode cX11_washedBy 16 = .ok (.ifCond .ne 9, 3) := by decide +kernel
theorem dX11_washedBy_19 : decode cX11_washedBy 19 = .ok (.iinc 4 1, 3) := by decide +kernel
theorem dX11_washedBy_22 : decode cX11_washedBy 22 = .ok (.goto (-19), 3) := by decide +kernel
theorem dX11_washedBy_25 : decode cX11_washedBy 25 = .ok (.iload 4, 2) := by decide +kernel
theorem dX11_washedBy_27 : decode cX11_washedBy 27 = .ok (.ireturn, 1) := by decide +kernel
def fX11_washedBy_L3 (N : Nat) (v0 : Nat) (v1 : Int32) (v3 : Int32) : Nat → Int32 → Mem → Option (Int32 × Mem)
  | 0, _, _ => none
  | n + 1, v4, M => (if v3 ≤ v4 then some (v4, M) else (if mK M v0 = 12 then ((fX11_isWashed N v0 v1 v4 M).bind fun (x13, M13) => (if x13 = 0 then fX11_washedBy_L3 N v0 v1 v3 n (v4 + 1) M13 else some (v4, M13))) else none))
def fX11_washedBy (N : Nat) (v0 : Nat) (v1 : Int32) (v2 : Int32) (v3 : Int32) (M : Mem) : Option (Int32 × Mem) := ((fX11_washedBy_L3 N v0 v1 v3 N v2 M).bind fun o3 => some o3)
set_option maxHeartbeats 4000000 in
set_option maxRecDepth 100000 in
theorem k_X11_washedBy (l : Launch) (b : Nat) (D : va_G) (cy : Nat → ClassId) (N : Nat) (v0 : Nat) (v1 : Int32) (v2 : Int32) (v3 : Int32) (M : Mem) (r : Int32) (Mf : Mem) (h : fX11_washedBy N v0 v1 v2 v3 M = some (r, Mf)) : Ct l yX11_washedBy cX11_washedBy 5 (some .int) 3 0 0 b D cy [.ref (b + v0), .int v1, .int v2, .int v3] M (some (.int r)) Mf := by
  refine Ct_of (own := RX11) (by decide) rfl (Nat.le_of_ble_eq_true rfl) ?_
  intro p e s m args below meth c F hr hl hmn
  unfold fX11_washedBy at h
  show X p l e ({ frames := 3, cells := 0, slots := 0, locals := 100 * 3 }) s m args below meth c (MQ below (Qm b D cy (some (.int r)) Mf) args s 0 0 (fun q => b ≤ q)) 5 b D cy 0 0 M 0 [(0, .ref (b + v0)), (1, .int v1), (2, .int v2), (3, .int v3)] []
  refine x_iload_n F dX11_washedBy_0 rfl 2 rfl ?_
  refine x_istore F (lv' := [(4, .int v2), (0, .ref (b + v0)), (1, .int v1), (2, .int v2), (3, .int v3)]) dX11_washedBy_1 (by decide) rfl ?_
  have L3 : ∀ (v0 : Nat) (v1 : Int32) (v3 : Int32) (n : Nat) (v4 : Int32) (M : Mem) (o : Int32 × Mem), fX11_washedBy_L3 N v0 v1 v3 n v4 M = some o → (∀ (r' : Int32) (M' : Mem), o = (r', M') → r' = r ∧ M' = Mf) → X p l e ({ frames := 3, cells := 0, slots := 0, locals := 100 * 3 }) s m args below meth c (MQ below (Qm b D cy (some (.int r)) Mf) args s 0 0 (fun q => b ≤ q)) 5 b D cy 0 0 M 3 [(0, .ref (b + v0)), (1, .int v1), (3, .int v3), (4, .int v4)] [] := by
    intro v0 v1 v3 n
    induction n with
    | zero => intro v4 M o h; exact absurd h (by rw [fX11_washedBy_L3]; exact fun z => by cases z)
    | succ n ih =>
      intro v4 M o h hR
      rw [fX11_washedBy_L3] at h
      refine x_iload F dX11_washedBy_3 3 rfl ?_
      refine x_iload_n F dX11_washedBy_5 rfl 2 rfl ?_
      refine x_icmp_ge F (tgt := 25) dX11_washedBy_6 (by decide) (fun c6 => ?_) (fun c6 => ?_)
      · rw [if_pos c6] at h
        refine x_iload F dX11_washedBy_25 3 rfl ?_
        obtain rfl := Option.some.inj h
        obtain ⟨rfl, rfl⟩ := hR _ _ rfl
        exact x_iret F hr hl dX11_washedBy_27
      · rw [if_neg c6] at h
        refine x_aload_n F dX11_washedBy_9 rfl 0 rfl ?_
        refine x_iload_n F dX11_washedBy_10 rfl 1 rfl ?_
        refine x_iload F dX11_washedBy_11 3 rfl ?_
        obtain ⟨k13, h⟩ := gdS h
        obtain ⟨⟨x13, M13⟩, c13, h⟩ := bdS h
        dsimp only at h
        refine x_callV F (As := [.int v1, .int v4]) (rest := []) (res := (some (.int x13))) (ci := 11) (q := (RX11, TX11, 45)) rfl (by decide) k13 (k_X11_isWashed l b D cy N v0 v1 v4 M _ _ c13) wl_1094 wl_1095 wl_1096 wl_854 wl_1035 hd_X11_isWashed ⟨Nat.le_of_ble_eq_true rfl, Nat.le_of_ble_eq_true rfl⟩ ⟨Nat.le_refl _, Nat.le_refl _⟩ (Nat.le_of_ble_eq_true rfl) rfl dX11_washedBy_13 ?_
        refine x_if_ne F (tgt := 25) dX11_washedBy_16 (by decide) (fun c16 => ?_) (fun c16 => ?_)
        · rw [if_neg c16] at h
          refine x_iload F dX11_washedBy_25 3 rfl ?_
          obtain rfl := Option.some.inj h
          obtain ⟨rfl, rfl⟩ := hR _ _ rfl
          exact x_iret F hr hl dX11_washedBy_27
        · rw [if_pos c16] at h
          refine x_iinc F (v := v4 + 1) (lv' := [(4, .int (v4 + 1)), (0, .ref (b + v0)), (1, .int v1), (3, .int v3)]) dX11_washedBy_19 3 rfl rfl (by decide) rfl ?_
          refine x_goto F (tgt := 3) dX11_washedBy_22 (by decide) ?_
          refine x_sub [1, 2, 3, 0] rfl ?_
          exact ih (v4 + 1) M13 o h hR
  obtain ⟨o3, h3, h⟩ := bdS h
  refine x_sub [1, 2, 4, 0] rfl ?_
  refine L3 v0 v1 v3 N v2 M o3 h3 (fun r' M' e => ?_)
  · subst e
    try dsimp only at h
    obtain ⟨rfl, rfl⟩ := retS h; exact ⟨rfl, rfl⟩
theorem hd_X11_washedBy : (yX11_washedBy).cls = RX11 ∧ (yX11_washedBy).cls ≠ "java/lang/invoke/MethodHandle" ∧ (yX11_washedBy).cls ≠ "java/lang/invoke/VarHandle" ∧ (parseMethodDescriptor (yX11_washedBy).desc).map (fun d => d.parameters.length) = some 3 := by decide +kernel
theorem dX11_dry_0 : decode cX11_dry 0 = .ok (.aload_n 0, 1) := by decide +kernel
theorem dX11_dry_1 : decode cX11_dry 1 = .ok (.iconst 0, 1) := by decide +kernel
theorem dX11_dry_2 : decode cX11_dry 2 = .ok (.putfield 1, 3) := by decide +kernel
theorem dX11_dry_5 : decode cX11_dry 5 = .ok (.aload_n 0, 1) := by decide +kernel
theorem dX11_dry_6 : decode cX11_dry 6 = .ok (.iload_n 1, 1) := by decide +kernel
theorem dX11_dry_7 : decode cX11_dry 7 = .ok (.invokevirtual 246, 3) := by decide +kernel
theorem dX11_dry_10 : decode cX11_dry 10 = .ok (.ifCond .ne 5, 3) := by decide +kernel
theorem dX11_dry_13 : decode cX11_dry 13 = .ok (.iconst (-1), 1) := by decide +kernel
theorem dX11_dry_14 : decode cX11_dry 14 = .ok (.ireturn, 1) := by decide +kernel
theorem dX11_dry_15 : decode cX11_dry 15 = .ok (.aload_n 0, 1) := by decide +kernel
theorem dX11_dry_16 : decode cX11_dry 16 = .ok (.iload_n 1, 1) := by decide +kernel
theorem dX11_dry_17 : decode cX11_dry 17 = .ok (.iconst 0, 1) := by decide +kernel
theorem dX11_dry_18 : decode cX11_dry 18 = .ok (.sipush 400, 3) := by decide +kernel
theorem dX11_dry_21 : decode cX11_dry 21 = .ok (.aload_n 0, 1) := by decide +kernel
theorem dX11_dry_22 : decode cX11_dry 22 = .ok (.getfield 98, 3) := by decide +kernel
theorem dX11_dry_25 : decode cX11_dry 25 = .ok (.bipush 35, 2) := by decide +kernel
theorem dX11_dry_27 : decode cX11_dry 27 = .ok (.iaload, 1) := by decide +kernel
theorem dX11_dry_28 : decode cX11_dry 28 = .ok (.isub, 1) := by decide +kernel
theorem dX11_dry_29 : decode cX11_dry 29 = .ok (.invokevirtual 311, 3) := by decide +kernel
theorem dX11_dry_32 : decode cX11_dry 32 = .ok (.istore_n 2, 1) := by decide +kernel
theorem dX11_dry_33 : decode cX11_dry 33 = .ok (.aload_n 0, 1) := by decide +kernel
theorem dX11_dry_34 : decode cX11_dry 34 = .ok (.getfield 98, 3) := by decide +kernel
theorem dX11_dry_37 : decode cX11_dry 37 = .ok (.bipush 35, 2) := by decide +kernel
theorem dX11_dry_39 : decode cX11_dry 39 = .ok (.iaload, 1) := by decide +kernel
theorem dX11_dry_40 : decode cX11_dry 40 = .ok (.iload_n 2, 1) := by decide +kernel
theorem dX11_dry_41 : decode cX11_dry 41 = .ok (.iadd, 1) := by decide +kernel
theorem dX11_dry_42 : decode cX11_dry 42 = .ok (.sipush 400, 3) := by decide +kernel
theorem dX11_dry_45 : decode cX11_dry 45 = .ok (.if_icmp .lt 7, 3) := by decide +kernel
theorem dX11_dry_48 : decode cX11_dry 48 = .ok (.iconst (-1), 1) := by decide +kernel
theorem dX11_dry_49 : decode cX11_dry 49 = .ok (.goto 6, 3) := by decide +kernel
theorem dX11_dry_52 : decode cX11_dry 52 = .ok (.iload_n 2, 1) := by decide +kernel
theorem dX11_dry_53 : decode cX11_dry 53 = .ok (.iconst 1, 1) := by decide +kernel
theorem dX11_dry_54 : decode cX11_dry 54 = .ok (.iadd, 1) := by decide +kernel
theorem dX11_dry_55 : decode cX11_dry 55 = .ok (.ireturn, 1) := by decide +kernel
def fX11_dry (N : Nat) (v0 : Nat) (v1 : Int32) (M : Mem) : Option (Int32 × Mem) := ((pI M 11 v0 0 0).bind fun M2 => (if mK M2 v0 = 12 then ((fX11_isBand N v0 v1 M2).bind fun (x7, M7) => (if x7 = 0 then some ((-1), M7) else ((fR M7 11 v0 14).bind fun x22 => ((aI M7 x22 35).bind fun x27 => (if mK M7 v0 = 12 then ((fX11_washedBy N v0 v1 0 (400 - x27) M7).bind fun (x29, M29) => ((fR M29 11 v0 14).bind fun x34 => ((aI M29 x34 35).bind fun x39 => (if (x39 + x29) < 400 then some (x29 + 1, M29) else some ((-1), M29))))) else none))))) else none))
set_option maxHeartbeats 4000000 in
set_option maxRecDepth 100000 in
theorem k_X11_dry (l : Launch) (b : Nat) (D : va_G) (cy : Nat → ClassId) (N : Nat) (v0 : Nat) (v1 : Int32) (M : Mem) (r : Int32) (Mf : Mem) (h : fX11_dry N v0 v1 M = some (r, Mf)) : Ct l yX11_dry cX11_dry 3 (some .int) 4 0 0 b D cy [.ref (b + v0), .int v1] M (some (.int r)) Mf := by
  refine Ct_of (own := RX11) (by decide) rfl (Nat.le_of_ble_eq_true rfl) ?_
  intro p e s m args below meth c F hr hl hmn
  unfold fX11_dry at h
  show X p l e ({ frames := 4, cells := 0, slots := 0, locals := 100 * 4 }) s m args below meth c (MQ below (Qm b D cy (some (.int r)) Mf) args s 0 0 (fun q => b ≤ q)) 3 b D cy 0 0 M 0 [(0, .ref (b + v0)), (1, .int v1)] []
  refine x_aload_n F dX11_dry_0 rfl 0 rfl ?_
  refine x_iconst F (v := 0) dX11_dry_1 (by decide) ?_
  obtain ⟨M2, c2, h⟩ := bdS h
  refine x_putI F (ci := 11) (C := RX11) (T := TX11) (N := 45) rfl ⟨by decide, rfl⟩ inU11 tyX11_ok nmX11 0 (by decide) rfl rfl wl_845 c2 dX11_dry_2 ?_
  refine x_aload_n F dX11_dry_5 rfl 0 rfl ?_
  refine x_iload_n F dX11_dry_6 rfl 1 rfl ?_
  obtain ⟨k7, h⟩ := gdS h
  obtain ⟨⟨x7, M7⟩, c7, h⟩ := bdS h
  dsimp only at h
  refine x_callV F (As := [.int v1]) (rest := []) (res := (some (.int x7))) (ci := 11) (q := (RX11, TX11, 45)) rfl (by decide) k7 (k_X11_isBand l b D cy N v0 v1 M2 _ _ c7) wl_1039 wl_1040 wl_1041 wl_854 wl_998 hd_X11_isBand ⟨Nat.le_of_ble_eq_true rfl, Nat.le_of_ble_eq_true rfl⟩ ⟨Nat.le_refl _, Nat.le_refl _⟩ (Nat.le_of_ble_eq_true rfl) rfl dX11_dry_7 ?_
  refine x_if_ne F (tgt := 15) dX11_dry_10 (by decide) (fun c10 => ?_) (fun c10 => ?_)
  · rw [if_neg c10] at h
    refine x_aload_n F dX11_dry_15 rfl 0 rfl ?_
    refine x_iload_n F dX11_dry_16 rfl 1 rfl ?_
    refine x_iconst F (v := 0) dX11_dry_17 (by decide) ?_
    refine x_sipush F (v := 400) dX11_dry_18 (by decide) ?_
    refine x_aload_n F dX11_dry_21 rfl 0 rfl ?_
    obtain ⟨x22, c22, h⟩ := bdS h
    refine x_getR F (ci := 11) (C := RX11) (T := TX11) (N := 45) rfl ⟨by decide, rfl⟩ inU11 14 (by decide) (fun _ _ _ => rfl) wl_913 c22 dX11_dry_22 ?_
    refine x_bipush F (v := 35) dX11_dry_25 (by decide) ?_
    obtain ⟨x27, c27, h⟩ := bdS h
    refine x_aI F c27 dX11_dry_27 ?_
    refine x_isub F dX11_dry_28 ?_
    obtain ⟨k29, h⟩ := gdS h
    obtain ⟨⟨x29, M29⟩, c29, h⟩ := bdS h
    dsimp only at h
    refine x_callV F (As := [.int v1, .int 0, .int (400 - x27)]) (rest := []) (res := (some (.int x29))) (ci := 11) (q := (RX11, TX11, 45)) rfl (by decide) k29 (k_X11_washedBy l b D cy N v0 v1 0 (400 - x27) M7 _ _ c29) wl_1126 wl_1127 wl_1128 wl_854 wl_1124 hd_X11_washedBy ⟨Nat.le_of_ble_eq_true rfl, Nat.le_of_ble_eq_true rfl⟩ ⟨Nat.le_refl _, Nat.le_refl _⟩ (Nat.le_of_ble_eq_true rfl) rfl dX11_dry_29 ?_
    refine x_istore_n F (lv' := [(2, .int x29), (0, .ref (b + v0)), (1, .int v1)]) dX11_dry_32 rfl (by decide) rfl ?_
    refine x_aload_n F dX11_dry_33 rfl 1 rfl ?_
    obtain ⟨x34, c34, h⟩ := bdS h
    refine x_getR F (ci := 11) (C := RX11) (T := TX11) (N := 45) rfl ⟨by decide, rfl⟩ inU11 14 (by decide) (fun _ _ _ => rfl) wl_913 c34 dX11_dry_34 ?_
    refine x_bipush F (v := 35) dX11_dry_37 (by decide) ?_
    obtain ⟨x39, c39, h⟩ := bdS h
    refine x_aI F c39 dX11_dry_39 ?_
    refine x_iload_n F dX11_dry_40 rfl 0 rfl ?_
    refine x_iadd F dX11_dry_41 ?_
    refine x_sipush F (v := 400) dX11_dry_42 (by decide) ?_
    refine x_icmp_lt F (tgt := 52) dX11_dry_45 (by decide) (fun c45 => ?_) (fun c45 => ?_)
    · rw [if_pos c45] at h
      refine x_iload_n F dX11_dry_52 rfl 0 rfl ?_
      refine x_iconst F (v := 1) dX11_dry_53 (by decide) ?_
      refine x_iadd F dX11_dry_54 ?_
      obtain ⟨rfl, rfl⟩ := retS h
      exact x_iret F hr hl dX11_dry_55
    · rw [if_neg c45] at h
      refine x_iconst F (v := (-1)) dX11_dry_48 (by decide) ?_
      refine x_goto F (tgt := 55) dX11_dry_49 (by decide) ?_
      obtain ⟨rfl, rfl⟩ := retS h
      exact x_iret F hr hl dX11_dry_55
  · rw [if_pos c10] at h
    refine x_iconst F (v := (-1)) dX11_dry_13 (by decide) ?_
    obtain ⟨rfl, rfl⟩ := retS h
    exact x_iret F hr hl dX11_dry_14
theorem dX11_cellOf_0 : decode cX11_cellOf 0 = .ok (.bipush 17, 2) := by decide +kernel
theorem dX11_cellOf_2 : decode cX11_cellOf 2 = .ok (.iload_n 0, 1) := by decide +kernel
theorem dX11_cellOf_3 : decode cX11_cellOf 3 = .ok (.imul, 1) := by decide +kernel
theorem dX11_cellOf_4 : decode cX11_cellOf 4 = .ok (.iload_n 1, 1) := by decide +kernel
theorem dX11_cellOf_5 : decode cX11_cellOf 5 = .ok (.iadd, 1) := by decide +kernel
theorem dX11_cellOf_6 : decode cX11_cellOf 6 = .ok (.bipush 33, 2) := by decide +kernel
theorem dX11_cellOf_8 : decode cX11_cellOf 8 = .ok (.imul, 1) := by decide +kernel
theorem dX11_cellOf_9 : decode cX11_cellOf 9 = .ok (.iload_n 2, 1) := by decide +kernel
theorem dX11_cellOf_10 : decode cX11_cellOf 10 = .ok (.iadd, 1) := by decide +kernel
theorem dX11_cellOf_11 : decode cX11_cellOf 11 = .ok (.ireturn, 1) := by decide +kernel
def fX11_cellOf (N : Nat) (v0 : Int32) (v1 : Int32) (v2 : Int32) (M : Mem) : Option (Int32 × Mem) := some ((((17 * v0) + v1) * 33) + v2, M)
set_option maxHeartbeats 4000000 in
set_option maxRecDepth 100000 in
theorem k_X11_cellOf (l : Launch) (b : Nat) (D : va_G) (cy : Nat → ClassId) (N : Nat) (v0 : Int32) (v1 : Int32) (v2 : Int32) (M : Mem) (r : Int32) (Mf : Mem) (h : fX11_cellOf N v0 v1 v2 M = some (r, Mf)) : Ct l yX11_cellOf cX11_cellOf 3 (some .int) 1 0 0 b D cy [.int v0, .int v1, .int v2] M (some (.int r)) Mf := by
  refine Ct_of (own := RX11) (by decide) rfl (Nat.le_of_ble_eq_true rfl) ?_
  intro p e s m args below meth c F hr hl hmn
  unfold fX11_cellOf at h
  show X p l e ({ frames := 1, cells := 0, slots := 0, locals := 100 * 1 }) s m args below meth c (MQ below (Qm b D cy (some (.int r)) Mf) args s 0 0 (fun q => b ≤ q)) 3 b D cy 0 0 M 0 [(0, .int v0), (1, .int v1), (2, .int v2)] []
  refine x_bipush F (v := 17) dX11_cellOf_0 (by decide) ?_
  refine x_iload_n F dX11_cellOf_2 rfl 0 rfl ?_
  refine x_imul F dX11_cellOf_3 ?_
  refine x_iload_n F dX11_cellOf_4 rfl 1 rfl ?_
  refine x_iadd F dX11_cellOf_5 ?_
  refine x_bipush F (v := 33) dX11_cellOf_6 (by decide) ?_
  refine x_imul F dX11_cellOf_8 ?_
  refine x_iload_n F dX11_cellOf_9 rfl 2 rfl ?_
  refine x_iadd F dX11_cellOf_10 ?_
  obtain ⟨rfl, rfl⟩ := retS h
  exact x_iret F hr hl dX11_cellOf_11
theorem hd_X11_cellOf : (yX11_cellOf).cls = RX11 ∧ (yX11_cellOf).cls ≠ "java/lang/invoke/MethodHandle" ∧ (yX11_cellOf).cls ≠ "java/lang/invoke/VarHandle" ∧ (parseMethodDescriptor (yX11_cellOf).desc).map (fun d => d.parameters.length) = some 3 := by decide +kernel
theorem dX11_oftenBy_0 : decode cX11_oftenBy 0 = .ok (.iload_n 1, 1) := by decide +kernel
theorem dX11_oftenBy_1 : decode cX11_oftenBy 1 = .ok (.iload 4, 2) := by decide +kernel
theorem dX11_oftenBy_3 : decode cX11_oftenBy 3 = .ok (.if_icmp .ne 5, 3) := by decide +kernel
theorem dX11_oftenBy_6 : decode cX11_oftenBy 6 = .ok (.iconst 0, 1) := by decide +kernel
theorem dX11_oftenBy_7 : decode cX11_oftenBy 7 = .ok (.ireturn, 1) := by decide +kernel
theorem dX11_oftenBy_8 : decode cX11_oftenBy 8 = .ok (.iload_n 2, 1) := by decide +kernel
theorem dX11_oftenBy_9 : decode cX11_oftenBy 9 = .ok (.iload_n 1, 1) := by decide +kernel
theorem dX11_oftenBy_10 : decode cX11_oftenBy 10 = .ok (.if_icmp .le 7, 3) := by decide +kernel
theorem dX11_oftenBy_13 : decode cX11_oftenBy 13 = .ok (.iconst 0, 1) := by decide +kernel
theorem dX11_oftenBy_14 : decode cX11_oftenBy 14 = .ok (.goto 6, 3) := by decide +kernel
theorem dX11_oftenBy_17 : decode cX11_oftenBy 17 = .ok (.iload_n 3, 1) := by decide +kernel
theorem dX11_oftenBy_18 : decode cX11_oftenBy 18 = .ok (.iconst 1, 1) := by decide +kernel
theorem dX11_oftenBy_19 : decode cX11_oftenBy 19 = .ok (.iadd, 1) := by decide +kernel
theorem dX11_oftenBy_20 : decode cX11_oftenBy 20 = .ok (.istore 5, 2) := by decide +kernel
theorem dX11_oftenBy_22 : decode cX11_oftenBy 22 = .ok (.iload 5, 2) := by decide +kernel
theorem dX11_oftenBy_24 : decode cX11_oftenBy 24 = .ok (.aload_n 0, 1) := by decide +kernel
theorem dX11_oftenBy_25 : decode cX11_oftenBy 25 = .ok (.getfield 98, 3) := by decide +kernel
theorem dX11_oftenBy_28 : decode cX11_oftenBy 28 = .ok (.iconst 4, 1) := by decide +kernel
theorem dX11_oftenBy_29 : decode cX11_oftenBy 29 = .ok (.iaload, 1) := by decide +kernel
theorem dX11_oftenBy_30 : decode cX11_oftenBy 30 = .ok (.if_icmp .lt 8, 3) := by decide +kernel
theorem dX11_oftenBy_33 : decode cX11_oftenBy 33 = .ok (.ldc 226, 2) := by decide +kernel
theorem dX11_oftenBy_35 : decode cX11_oftenBy 35 = .ok (.goto 17, 3) := by decide +kernel
theorem dX11_oftenBy_38 : decode cX11_oftenBy 38 = .ok (.aload_n 0, 1) := by decide +kernel
theorem dX11_oftenBy_39 : decode cX11_oftenBy 39 = .ok (.getfield 127, 3) := by decide +kernel
theorem dX11_oftenBy_42 : decode cX11_oftenBy 42 = .ok (.iload_n 1, 1) := by decide +kernel
theorem dX11_oftenBy_43 : decode cX11_oftenBy 43 = .ok (.iconst 1, 1) := by decide +kernel
theorem dX11_oftenBy_44 : decode cX11_oftenBy 44 = .ok (.iadd, 1) := by decide +kernel
theorem dX11_oftenBy_45 : decode cX11_oftenBy 45 = .ok (.iload_n 2, 1) := by decide +kernel
theorem dX11_oftenBy_46 : decode cX11_oftenBy 46 = .ok (.iload 5, 2) := by decide +kernel
theorem dX11_oftenBy_48 : decode cX11_oftenBy 48 = .ok (.invokestatic 314, 3) := by decide +kernel
theorem dX11_oftenBy_51 : decode cX11_oftenBy 51 = .ok (.iaload, 1) := by decide +kernel
theorem dX11_oftenBy_52 : decode cX11_oftenBy 52 = .ok (.ireturn, 1) := by decide +kernel
def fX11_oftenBy_J20 (N : Nat) (v0 : Nat) (v1 : Int32) (v2 : Int32) (s0 : Int32) (M : Mem) : Option (Int32 × Mem) := ((fR M 11 v0 14).bind fun x25 => ((aI M x25 4).bind fun x29 => (if s0 < x29 then ((fR M 11 v0 25).bind fun x39 => ((fX11_cellOf N (v1 + 1) v2 s0 M).bind fun (x48, M48) => ((aI M48 x39 x48).bind fun x51 => some (x51, M48)))) else some ((100000), M))))
def fX11_oftenBy (N : Nat) (v0 : Nat) (v1 : Int32) (v2 : Int32) (v3 : Int32) (v4 : Int32) (M : Mem) : Option (Int32 × Mem) := (if v1 = v4 then some (0, M) else (if v2 ≤ v1 then fX11_oftenBy_J20 N v0 v1 v2 (v3 + 1) M else fX11_oftenBy_J20 N v0 v1 v2 0 M))
set_option maxHeartbeats 4000000 in
set_option maxRecDepth 100000 in
theorem k_X11_oftenBy (l : Launch) (b : Nat) (D : va_G) (cy : Nat → ClassId) (N : Nat) (v0 : Nat) (v1 : Int32) (v2 : Int32) (v3 : Int32) (v4 : Int32) (M : Mem) (r : Int32) (Mf : Mem) (h : fX11_oftenBy N v0 v1 v2 v3 v4 M = some (r, Mf)) : Ct l yX11_oftenBy cX11_oftenBy 6 (some .int) 2 0 0 b D cy [.ref (b + v0), .int v1, .int v2, .int v3, .int v4] M (some (.int r)) Mf := by
  refine Ct_of (own := RX11) (by decide) rfl (Nat.le_of_ble_eq_true rfl) ?_
  intro p e s m args below meth c F hr hl hmn
  unfold fX11_oftenBy at h
  have J20 : ∀ (v0 : Nat) (v1 : Int32) (v2 : Int32) (s0 : Int32) (M : Mem), fX11_oftenBy_J20 N v0 v1 v2 s0 M = some (r, Mf) → X p l e ({ frames := 2, cells := 0, slots := 0, locals := 100 * 2 }) s m args below meth c (MQ below (Qm b D cy (some (.int r)) Mf) args s 0 0 (fun q => b ≤ q)) 6 b D cy 0 0 M 20 [(0, .ref (b + v0)), (1, .int v1), (2, .int v2)] [.int s0] := by
    intro v0 v1 v2 s0 M h
    unfold fX11_oftenBy_J20 at h
    refine x_istore F (lv' := [(5, .int s0), (0, .ref (b + v0)), (1, .int v1), (2, .int v2)]) dX11_oftenBy_20 (by decide) rfl ?_
    refine x_iload F dX11_oftenBy_22 0 rfl ?_
    refine x_aload_n F dX11_oftenBy_24 rfl 1 rfl ?_
    obtain ⟨x25, c25, h⟩ := bdS h
    refine x_getR F (ci := 11) (C := RX11) (T := TX11) (N := 45) rfl ⟨by decide, rfl⟩ inU11 14 (by decide) (fun _ _ _ => rfl) wl_913 c25 dX11_oftenBy_25 ?_
    refine x_iconst F (v := 4) dX11_oftenBy_28 (by decide) ?_
    obtain ⟨x29, c29, h⟩ := bdS h
    refine x_aI F c29 dX11_oftenBy_29 ?_
    refine x_icmp_lt F (tgt := 38) dX11_oftenBy_30 (by decide) (fun c30 => ?_) (fun c30 => ?_)
    · rw [if_pos c30] at h
      refine x_aload_n F dX11_oftenBy_38 rfl 1 rfl ?_
      obtain ⟨x39, c39, h⟩ := bdS h
      refine x_getR F (ci := 11) (C := RX11) (T := TX11) (N := 45) rfl ⟨by decide, rfl⟩ inU11 25 (by decide) (fun _ _ _ => rfl) wl_923 c39 dX11_oftenBy_39 ?_
      refine x_iload_n F dX11_oftenBy_42 rfl 2 rfl ?_
      refine x_iconst F (v := 1) dX11_oftenBy_43 (by decide) ?_
      refine x_iadd F dX11_oftenBy_44 ?_
      refine x_iload_n F dX11_oftenBy_45 rfl 3 rfl ?_
      refine x_iload F dX11_oftenBy_46 0 rfl ?_
      obtain ⟨⟨x48, M48⟩, c48, h⟩ := bdS h
      dsimp only at h
      refine x_callS F (As := [.int (v1 + 1), .int v2, .int s0]) (rest := [.ref (b + x39)]) (res := (some (.int x48))) (k_X11_cellOf l b D cy N (v1 + 1) v2 s0 M _ _ c48) wl_1131 wl_1132 wl_854 wl_1129 (hd_X11_cellOf).2 ⟨Nat.le_of_ble_eq_true rfl, Nat.le_of_ble_eq_true rfl⟩ ⟨Nat.le_refl _, Nat.le_refl _⟩ (Nat.le_of_ble_eq_true rfl) rfl dX11_oftenBy_48 ?_
      obtain ⟨x51, c51, h⟩ := bdS h
      refine x_aI F c51 dX11_oftenBy_51 ?_
      obtain ⟨rfl, rfl⟩ := retS h
      exact x_iret F hr hl dX11_oftenBy_52
    · rw [if_neg c30] at h
      refine x_ldc F (v := (100000)) dX11_oftenBy_33 wl_1010 ?_
      refine x_goto F (tgt := 52) dX11_oftenBy_35 (by decide) ?_
      obtain ⟨rfl, rfl⟩ := retS h
      exact x_iret F hr hl dX11_oftenBy_52
  show X p l e ({ frames := 2, cells := 0, slots := 0, locals := 100 * 2 }) s m args below meth c (MQ below (Qm b D cy (some (.int r)) Mf) args s 0 0 (fun q => b ≤ q)) 6 b D cy 0 0 M 0 [(0, .ref (b + v0)), (1, .int v1), (2, .int v2), (3, .int v3), (4, .int v4)] []
  refine x_iload_n F dX11_oftenBy_0 rfl 1 rfl ?_
  refine x_iload F dX11_oftenBy_1 4 rfl ?_
  refine x_icmp_ne F (tgt := 8) dX11_oftenBy_3 (by decide) (fun c3 => ?_) (fun c3 => ?_)
  · rw [if_neg c3] at h
    refine x_iload_n F dX11_oftenBy_8 rfl 2 rfl ?_
    refine x_iload_n F dX11_oftenBy_9 rfl 1 rfl ?_
    refine x_icmp_le F (tgt := 17) dX11_oftenBy_10 (by decide) (fun c10 => ?_) (fun c10 => ?_)
    · rw [if_pos c10] at h
      refine x_iload_n F dX11_oftenBy_17 rfl 3 rfl ?_
      refine x_iconst F (v := 1) dX11_oftenBy_18 (by decide) ?_
      refine x_iadd F dX11_oftenBy_19 ?_
      refine x_sub [0, 1, 2] rfl ?_
      exact J20 v0 v1 v2 (v3 + 1) M h
    · rw [if_neg c10] at h
      refine x_iconst F (v := 0) dX11_oftenBy_13 (by decide) ?_
      refine x_goto F (tgt := 20) dX11_oftenBy_14 (by decide) ?_
      refine x_sub [0, 1, 2] rfl ?_
      exact J20 v0 v1 v2 0 M h
  · rw [if_pos c3] at h
    refine x_iconst F (v := 0) dX11_oftenBy_6 (by decide) ?_
    obtain ⟨rfl, rfl⟩ := retS h
    exact x_iret F hr hl dX11_oftenBy_7
theorem dX11_bestUntil_0 : decode cX11_bestUntil 0 = .ok (.iconst (-1), 1) := by decide +kernel
theorem dX11_bestUntil_1 : decode cX11_bestUntil 1 = .ok (.istore 4, 2) := by decide +kernel
theorem dX11_bestUntil_3 : decode cX11_bestUntil 3 = .ok (.iconst 0, 1) := by decide +kernel
theorem dX11_bestUntil_4 : decode cX11_bestUntil 4 = .ok (.istore 5, 2) := by decide +kernel
theorem dX11_bestUntil_6 : decode cX11_bestUntil 6 = .ok (.iload 5, 2) := by decide +kernel
theorem dX11_bestUntil_8 : decode cX11_bestUntil 8 = .ok (.aload_n 0, 1) := by decide +kernel
theorem dX11_bestUntil_9 : decode cX11_bestUntil 9 = .ok (.getfield 98, 3) := by decide +kernel
theorem dX11_bestUntil_12 : decode cX11_bestUntil 12 = .ok (.iconst 0, 1) := by decide +kernel
theorem dX11_bestUntil_13 : decode cX11_bestUntil 13 = .ok (.iaload, 1) := by decide +kernel
theorem dX11_bestUntil_14 : decode cX11_bestUntil 14 = .ok (.if_icmp .ge 51, 3) := by decide +kernel
theorem dX11_bestUntil_17 : decode cX11_bestUntil 17 = .ok (.aload_n 0, 1) := by decide +kernel
theorem dX11_bestUntil_18 : decode cX11_bestUntil 18 = .ok (.getfield 98, 3) := by decide +kernel
theorem dX11_bestUntil_21 : decode cX11_bestUntil 21 = .ok (.bipush 11, 2) := by decide +kernel
theorem dX11_bestUntil_23 : decode cX11_bestUntil 23 = .ok (.iload 5, 2) := by decide +kernel
theorem dX11_bestUntil_25 : decode cX11_bestUntil 25 = .ok (.iadd, 1) := by decide +kernel
theorem dX11_bestUntil_26 : decode cX11_bestUntil 26 = .ok (.iaload, 1) := by decide +kernel
theorem dX11_bestUntil_27 : decode cX11_bestUntil 27 = .ok (.aload_n 0, 1) := by decide +kernel
theorem dX11_bestUntil_28 : decode cX11_bestUntil 28 = .ok (.iload_n 1, 1) := by decide +kernel
theorem dX11_bestUntil_29 : decode cX11_bestUntil 29 = .ok (.invokevirtual 216, 3) := by decide +kernel
theorem dX11_bestUntil_32 : decode cX11_bestUntil 32 = .ok (.if_icmp .ge 6, 3) := by decide +kernel
theorem dX11_bestUntil_35 : decode cX11_bestUntil 35 = .ok (.goto 24, 3) := by decide +kernel
theorem dX11_bestUntil_38 : decode cX11_bestUntil 38 = .ok (.aload_n 0, 1) := by decide +kernel
theorem dX11_bestUntil_39 : decode cX11_bestUntil 39 = .ok (.iload 5, 2) := by decide +kernel
theorem dX11_bestUntil_41 : decode cX11_bestUntil 41 = .ok (.iload_n 2, 1) := by decide +kernel
theorem dX11_bestUntil_42 : decode cX11_bestUntil 42 = .ok (.iload_n 3, 1) := by decide +kernel
theorem dX11_bestUntil_43 : decode cX11_bestUntil 43 = .ok (.invokevirtual 311, 3) := by decide +kernel
theorem dX11_bestUntil_46 : decode cX11_bestUntil 46 = .ok (.istore 6, 2) := by decide +kernel
theorem dX11_bestUntil_48 : decode cX11_bestUntil 48 = .ok (.iload 6, 2) := by decide +kernel
theorem dX11_bestUntil_50 : decode cX11_bestUntil 50 = .ok (.iload 4, 2) := by decide +kernel
theorem dX11_bestUntil_52 : decode cX11_bestUntil 52 = .ok (.if_icmp .le 7, 3) := by decide +kernel
theorem dX11_bestUntil_55 : decode cX11_bestUntil 55 = .ok (.iload 6, 2) := by decide +kernel
theorem dX11_bestUntil_57 : decode cX11_bestUntil 57 = .ok (.istore 4, 2) := by decide +kernel
theorem dX11_bestUntil_59 : decode cX11_bestUntil 59 = .ok (.iinc 5 1, 3) := by decide +kernel
theorem dX11_bestUntil_62 : decode cX11_bestUntil 62 = .ok (.goto (-56), 3) := by decide +kernel
theorem dX11_bestUntil_65 : decode cX11_bestUntil 65 = .ok (.iload 4, 2) := by decide +kernel
theorem dX11_bestUntil_67 : decode cX11_bestUntil 67 = .ok (.ireturn, 1) := by decide +kernel
def fX11_bestUntil_L6 (N : Nat) (v0 : Nat) (v1 : Int32) (v2 : Int32) (v3 : Int32) : Nat → Int32 → Int32 → Mem → Option (Int32 × Mem)
  | 0, _, _, _ => none
  | n + 1, v4, v5, M => ((fR M 11 v0 14).bind fun x9 => ((aI M x9 0).bind fun x13 => (if x13 ≤ v5 then some (v4, M) else ((fR M 11 v0 14).bind fun x18 => ((aI M x18 (11 + v5)).bind fun x26 => (if mK M v0 = 12 then ((fX11_longOf N v0 v1 M).bind fun (x29, M29) => (if x29 ≤ x26 then (if mK M29 v0 = 12 then ((fX11_washedBy N v0 v5 v2 v3 M29).bind fun (x43, M43) => (if x43 ≤ v4 then fX11_bestUntil_L6 N v0 v1 v2 v3 n v4 (v5 + 1) M43 else fX11_bestUntil_L6 N v0 v1 v2 v3 n x43 (v5 + 1) M43)) else none) else fX11_bestUntil_L6 N v0 v1 v2 v3 n v4 (v5 + 1) M29)) else none))))))
def fX11_bestUntil (N : Nat) (v0 : Nat) (v1 : Int32) (v2 : Int32) (v3 : Int32) (M : Mem) : Option (Int32 × Mem) := ((fX11_bestUntil_L6 N v0 v1 v2 v3 N ((-1)) 0 M).bind fun o6 => some o6)
set_option maxHeartbeats 4000000 in
set_option maxRecDepth 100000 in
theorem k_X11_bestUntil (l : Launch) (b : Nat) (D : va_G) (cy : Nat → ClassId) (N : Nat) (v0 : Nat) (v1 : Int32) (v2 : Int32) (v3 : Int32) (M : Mem) (r : Int32) (Mf : Mem) (h : fX11_bestUntil N v0 v1 v2 v3 M = some (r, Mf)) : Ct l yX11_bestUntil cX11_bestUntil 7 (some .int) 4 0 0 b D cy [.ref (b + v0), .int v1, .int v2, .int v3] M (some (.int r)) Mf := by
  refine Ct_of (own := RX11) (by decide) rfl (Nat.le_of_ble_eq_true rfl) ?_
  intro p e s m args below meth c F hr hl hmn
  unfold fX11_bestUntil at h
  show X p l e ({ frames := 4, cells := 0, slots := 0, locals := 100 * 4 }) s m args below meth c (MQ below (Qm b D cy (some (.int r)) Mf) args s 0 0 (fun q => b ≤ q)) 7 b D cy 0 0 M 0 [(0, .ref (b + v0)), (1, .int v1), (2, .int v2), (3, .int v3)] []
  refine x_iconst F (v := (-1)) dX11_bestUntil_0 (by decide) ?_
  refine x_istore F (lv' := [(4, .int ((-1))), (0, .ref (b + v0)), (1, .int v1), (2, .int v2), (3, .int v3)]) dX11_bestUntil_1 (by decide) rfl ?_
  refine x_iconst F (v := 0) dX11_bestUntil_3 (by decide) ?_
  refine x_istore F (lv' := [(5, .int 0), (4, .int ((-1))), (0, .ref (b + v0)), (1, .int v1), (2, .int v2), (3, .int v3)]) dX11_bestUntil_4 (by decide) rfl ?_
  have L6 : ∀ (v0 : Nat) (v1 : Int32) (v2 : Int32) (v3 : Int32) (n : Nat) (v4 : Int32) (v5 : Int32) (M : Mem) (o : Int32 × Mem), fX11_bestUntil_L6 N v0 v1 v2 v3 n v4 v5 M = some o → (∀ (r' : Int32) (M' : Mem), o = (r', M') → r' = r ∧ M' = Mf) → X p l e ({ frames := 4, cells := 0, slots := 0, locals := 100 * 4 }) s m args below meth c (MQ below (Qm b D cy (some (.int r)) Mf) args s 0 0 (fun q => b ≤ q)) 7 b D cy 0 0 M 6 [(0, .ref (b + v0)), (1, .int v1), (2, .int v2), (3, .int v3), (4, .int v4), (5, .int v5)] [] := by
    intro v0 v1 v2 v3 n
    induction n with
    | zero => intro v4 v5 M o h; exact absurd h (by rw [fX11_bestUntil_L6]; exact fun z => by cases z)
    | succ n ih =>
      intro v4 v5 M o h hR
      rw [fX11_bestUntil_L6] at h
      refine x_iload F dX11_bestUntil_6 5 rfl ?_
      refine x_aload_n F dX11_bestUntil_8 rfl 0 rfl ?_
      obtain ⟨x9, c9, h⟩ := bdS h
      refine x_getR F (ci := 11) (C := RX11) (T := TX11) (N := 45) rfl ⟨by decide, rfl⟩ inU11 14 (by decide) (fun _ _ _ => rfl) wl_913 c9 dX11_bestUntil_9 ?_
      refine x_iconst F (v := 0) dX11_bestUntil_12 (by decide) ?_
      obtain ⟨x13, c13, h⟩ := bdS h
      refine x_aI F c13 dX11_bestUntil_13 ?_
      refine x_icmp_ge F (tgt := 65) dX11_bestUntil_14 (by decide) (fun c14 => ?_) (fun c14 => ?_)
      · rw [if_pos c14] at h
        refine x_iload F dX11_bestUntil_65 4 rfl ?_
        obtain rfl := Option.some.inj h
        obtain ⟨rfl, rfl⟩ := hR _ _ rfl
        exact x_iret F hr hl dX11_bestUntil_67
      · rw [if_neg c14] at h
        refine x_aload_n F dX11_bestUntil_17 rfl 0 rfl ?_
        obtain ⟨x18, c18, h⟩ := bdS h
        refine x_getR F (ci := 11) (C := RX11) (T := TX11) (N := 45) rfl ⟨by decide, rfl⟩ inU11 14 (by decide) (fun _ _ _ => rfl) wl_913 c18 dX11_bestUntil_18 ?_
        refine x_bipush F (v := 11) dX11_bestUntil_21 (by decide) ?_
        refine x_iload F dX11_bestUntil_23 5 rfl ?_
        refine x_iadd F dX11_bestUntil_25 ?_
        obtain ⟨x26, c26, h⟩ := bdS h
        refine x_aI F c26 dX11_bestUntil_26 ?_
        refine x_aload_n F dX11_bestUntil_27 rfl 0 rfl ?_
        refine x_iload_n F dX11_bestUntil_28 rfl 1 rfl ?_
        obtain ⟨k29, h⟩ := gdS h
        obtain ⟨⟨x29, M29⟩, c29, h⟩ := bdS h
        dsimp only at h
        refine x_callV F (As := [.int v1]) (rest := [.int x26]) (res := (some (.int x29))) (ci := 11) (q := (RX11, TX11, 45)) rfl (by decide) k29 (k_X11_longOf l b D cy N v0 v1 M _ _ c29) wl_1005 wl_1006 wl_1007 wl_854 wl_1003 hd_X11_longOf ⟨Nat.le_of_ble_eq_true rfl, Nat.le_of_ble_eq_true rfl⟩ ⟨Nat.le_refl _, Nat.le_refl _⟩ (Nat.le_of_ble_eq_true rfl) rfl dX11_bestUntil_29 ?_
        refine x_icmp_ge F (tgt := 38) dX11_bestUntil_32 (by decide) (fun c32 => ?_) (fun c32 => ?_)
        · rw [if_pos c32] at h
          refine x_aload_n F dX11_bestUntil_38 rfl 0 rfl ?_
          refine x_iload F dX11_bestUntil_39 5 rfl ?_
          refine x_iload_n F dX11_bestUntil_41 rfl 2 rfl ?_
          refine x_iload_n F dX11_bestUntil_42 rfl 3 rfl ?_
          obtain ⟨k43, h⟩ := gdS h
          obtain ⟨⟨x43, M43⟩, c43, h⟩ := bdS h
          dsimp only at h
          refine x_callV F (As := [.int v5, .int v2, .int v3]) (rest := []) (res := (some (.int x43))) (ci := 11) (q := (RX11, TX11, 45)) rfl (by decide) k43 (k_X11_washedBy l b D cy N v0 v5 v2 v3 M29 _ _ c43) wl_1126 wl_1127 wl_1128 wl_854 wl_1124 hd_X11_washedBy ⟨Nat.le_of_ble_eq_true rfl, Nat.le_of_ble_eq_true rfl⟩ ⟨Nat.le_refl _, Nat.le_refl _⟩ (Nat.le_of_ble_eq_true rfl) rfl dX11_bestUntil_43 ?_
          refine x_istore F (lv' := [(6, .int x43), (0, .ref (b + v0)), (1, .int v1), (2, .int v2), (3, .int v3), (4, .int v4), (5, .int v5)]) dX11_bestUntil_46 (by decide) rfl ?_
          refine x_iload F dX11_bestUntil_48 0 rfl ?_
          refine x_iload F dX11_bestUntil_50 5 rfl ?_
          refine x_icmp_le F (tgt := 59) dX11_bestUntil_52 (by decide) (fun c52 => ?_) (fun c52 => ?_)
          · rw [if_pos c52] at h
            refine x_iinc F (v := v5 + 1) (lv' := [(5, .int (v5 + 1)), (6, .int x43), (0, .ref (b + v0)), (1, .int v1), (2, .int v2), (3, .int v3), (4, .int v4)]) dX11_bestUntil_59 6 rfl rfl (by decide) rfl ?_
            refine x_goto F (tgt := 6) dX11_bestUntil_62 (by decide) ?_
            refine x_sub [2, 3, 4, 5, 6, 0] rfl ?_
            exact ih v4 (v5 + 1) M43 o h hR
          · rw [if_neg c52] at h
            refine x_iload F dX11_bestUntil_55 0 rfl ?_
            refine x_istore F (lv' := [(4, .int x43), (6, .int x43), (0, .ref (b + v0)), (1, .int v1), (2, .int v2), (3, .int v3), (5, .int v5)]) dX11_bestUntil_57 (by decide) rfl ?_
            refine x_iinc F (v := v5 + 1) (lv' := [(5, .int (v5 + 1)), (4, .int x43), (6, .int x43), (0, .ref (b + v0)), (1, .int v1), (2, .int v2), (3, .int v3)]) dX11_bestUntil_59 6 rfl rfl (by decide) rfl ?_
            refine x_goto F (tgt := 6) dX11_bestUntil_62 (by decide) ?_
            refine x_sub [3, 4, 5, 6, 1, 0] rfl ?_
            exact ih x43 (v5 + 1) M43 o h hR
        · rw [if_neg c32] at h
          refine x_goto F (tgt := 59) dX11_bestUntil_35 (by decide) ?_
          refine x_iinc F (v := v5 + 1) (lv' := [(5, .int (v5 + 1)), (0, .ref (b + v0)), (1, .int v1), (2, .int v2), (3, .int v3), (4, .int v4)]) dX11_bestUntil_59 5 rfl rfl (by decide) rfl ?_
          refine x_goto F (tgt := 6) dX11_bestUntil_62 (by decide) ?_
          refine x_sub [1, 2, 3, 4, 5, 0] rfl ?_
          exact ih v4 (v5 + 1) M29 o h hR
  obtain ⟨o6, h6, h⟩ := bdS h
  refine x_sub [2, 3, 4, 5, 1, 0] rfl ?_
  refine L6 v0 v1 v2 v3 N ((-1)) 0 M o6 h6 (fun r' M' e => ?_)
  · subst e
    try dsimp only at h
    obtain ⟨rfl, rfl⟩ := retS h; exact ⟨rfl, rfl⟩
theorem hd_X11_oftenBy : (yX11_oftenBy).cls = RX11 ∧ (yX11_oftenBy).cls ≠ "java/lang/invoke/MethodHandle" ∧ (yX11_oftenBy).cls ≠ "java/lang/invoke/VarHandle" ∧ (parseMethodDescriptor (yX11_oftenBy).desc).map (fun d => d.parameters.length) = some 4 := by decide +kernel
theorem hd_X11_bestUntil : (yX11_bestUntil).cls = RX11 ∧ (yX11_bestUntil).cls ≠ "java/lang/invoke/MethodHandle" ∧ (yX11_bestUntil).cls ≠ "java/lang/invoke/VarHandle" ∧ (parseMethodDescriptor (yX11_bestUntil).desc).map (fun d => d.parameters.length) = some 3 := by decide +kernel
theorem dX11_keep_0 : decode cX11_keep 0 = .ok (.aload_n 0, 1) := by decide +kernel
theorem dX11_keep_1 : decode cX11_keep 1 = .ok (.iconst 0, 1) := by decide +kernel
theorem dX11_keep_2 : decode cX11_keep 2 = .ok (.putfield 1, 3) := by decide +kernel
theorem dX11_keep_5 : decode cX11_keep 5 = .ok (.aload_n 0, 1) := by decide +kernel
theorem dX11_keep_6 : decode cX11_keep 6 = .ok (.iload_n 1, 1) := by decide +kernel
theorem dX11_keep_7 : decode cX11_keep 7 = .ok (.invokevirtual 258, 3) := by decide +kernel
theorem dX11_keep_10 : decode cX11_keep 10 = .ok (.ifCond .eq 27, 3) := by decide +kernel
theorem dX11_keep_13 : decode cX11_keep 13 = .ok (.iload_n 2, 1) := by decide +kernel
theorem dX11_keep_14 : decode cX11_keep 14 = .ok (.iconst 1, 1) := by decide +kernel
theorem dX11_keep_15 : decode cX11_keep 15 = .ok (.bipush 16, 2) := by decide +kernel
theorem dX11_keep_17 : decode cX11_keep 17 = .ok (.invokestatic 75, 3) := by decide +kernel
theorem dX11_keep_20 : decode cX11_keep 20 = .ok (.ifCond .eq 17, 3) := by decide +kernel
theorem dX11_keep_23 : decode cX11_keep 23 = .ok (.aload_n 0, 1) := by decide +kernel
theorem dX11_keep_24 : decode cX11_keep 24 = .ok (.getfield 98, 3) := by decide +kernel
theorem dX11_keep_27 : decode cX11_keep 27 = .ok (.bipush 38, 2) := by decide +kernel
theorem dX11_keep_29 : decode cX11_keep 29 = .ok (.iaload, 1) := by decide +kernel
theorem dX11_keep_30 : decode cX11_keep 30 = .ok (.iload_n 1, 1) := by decide +kernel
theorem dX11_keep_31 : decode cX11_keep 31 = .ok (.invokestatic 261, 3) := by decide +kernel
theorem dX11_keep_34 : decode cX11_keep 34 = .ok (.ifCond .eq 5, 3) := by decide +kernel
theorem dX11_keep_37 : decode cX11_keep 37 = .ok (.iconst (-1), 1) := by decide +kernel
theorem dX11_keep_38 : decode cX11_keep 38 = .ok (.ireturn, 1) := by decide +kernel
theorem dX11_keep_39 : decode cX11_keep 39 = .ok (.iload_n 2, 1) := by decide +kernel
theorem dX11_keep_40 : decode cX11_keep 40 = .ok (.istore_n 3, 1) := by decide +kernel
theorem dX11_keep_41 : decode cX11_keep 41 = .ok (.iload_n 3, 1) := by decide +kernel
theorem dX11_keep_42 : decode cX11_keep 42 = .ok (.ifCond .lt 115, 3) := by decide +kernel
theorem dX11_keep_45 : decode cX11_keep 45 = .ok (.iload_n 3, 1) := by decide +kernel
theorem dX11_keep_46 : decode cX11_keep 46 = .ok (.iload_n 2, 1) := by decide +kernel
theorem dX11_keep_47 : decode cX11_keep 47 = .ok (.if_icmp .ge 13, 3) := by decide +kernel
theorem dX11_keep_50 : decode cX11_keep 50 = .ok (.aload_n 0, 1) := by decide +kernel
theorem dX11_keep_51 : decode cX11_keep 51 = .ok (.iload_n 1, 1) := by decide +kernel
theorem dX11_keep_52 : decode cX11_keep 52 = .ok (.iload_n 3, 1) := by decide +kernel
theorem dX11_keep_53 : decode cX11_keep 53 = .ok (.iload_n 2, 1) := by decide +kernel
theorem dX11_keep_54 : decode cX11_keep 54 = .ok (.invokevirtual 317, 3) := by decide +kernel
theorem dX11_keep_57 : decode cX11_keep 57 = .ok (.goto 4, 3) := by decide +kernel
theorem dX11_keep_60 : decode cX11_keep 60 = .ok (.iconst (-1), 1) := by decide +kernel
theorem dX11_keep_61 : decode cX11_keep 61 = .ok (.istore 4, 2) := by decide +kernel
theorem dX11_keep_63 : decode cX11_keep 63 = .ok (.iconst 0, 1) := by decide +kernel
theorem dX11_keep_64 : decode cX11_keep 64 = .ok (.istore 5, 2) := by decide +kernel
theorem dX11_keep_66 : decode cX11_keep 66 = .ok (.iload 5, 2) := by decide +kernel
theorem dX11_keep_68 : decode cX11_keep 68 = .ok (.iload_n 2, 1) := by decide +kernel
theorem dX11_keep_69 : decode cX11_keep 69 = .ok (.if_icmp .gt 82, 3) := by decide +kernel
theorem dX11_keep_72 : decode cX11_keep 72 = .ok (.iconst 0, 1) := by decide +kernel
theorem dX11_keep_73 : decode cX11_keep 73 = .ok (.istore 6, 2) := by decide +kernel
theorem dX11_keep_75 : decode cX11_keep 75 = .ok (.iload 6, 2) := by decide +kernel
theorem dX11_keep_77 : decode cX11_keep 77 = .ok (.aload_n 0, 1) := by decide +kernel
theorem dX11_keep_78 : decode cX11_keep 78 = .ok (.getfield 98, 3) := by decide +kernel
theorem dX11_keep_81 : decode cX11_keep 81 = .ok (.iconst 4, 1) := by decide +kernel
theorem dX11_keep_82 : decode cX11_keep 82 = .ok (.iaload, 1) := by decide +kernel
theorem dX11_keep_83 : decode cX11_keep 83 = .ok (.if_icmp .ge 62, 3) := by decide +kernel
theorem dX11_keep_86 : decode cX11_keep 86 = .ok (.aload_n 0, 1) := by decide +kernel
theorem dX11_keep_87 : decode cX11_keep 87 = .ok (.iload_n 3, 1) := by decide +kernel
theorem dX11_keep_88 : decode cX11_keep 88 = .ok (.iload 5, 2) := by decide +kernel
theorem dX11_keep_90 : decode cX11_keep 90 = .ok (.iload 6, 2) := by decide +kernel
theorem dX11_keep_92 : decode cX11_keep 92 = .ok (.iload_n 2, 1) := by decide +kernel
theorem dX11_keep_93 : decode cX11_keep 93 = .ok (.invokevirtual 320, 3) := by decide +kernel
theorem dX11_keep_96 : decode cX11_keep 96 = .ok (.istore 7, 2) := by decide +kernel
theorem dX11_keep_98 : decode cX11_keep 98 = .ok (.iload 4, 2) := by decide +kernel
theorem dX11_keep_100 : decode cX11_keep 100 = .ok (.iload 5, 2) := by decide +kernel
theorem dX11_keep_102 : decode cX11_keep 102 = .ok (.if_icmp .le 22, 3) := by decide +kernel
theorem dX11_keep_105 : decode cX11_keep 105 = .ok (.iload 7, 2) := by decide +kernel
theorem dX11_keep_107 : decode cX11_keep 107 = .ok (.iconst 1, 1) := by decide +kernel
theorem dX11_keep_108 : decode cX11_keep 108 = .ok (.aload_n 0, 1) := by decide +kernel
theorem dX11_keep_109 : decode cX11_keep 109 = .ok (.iload_n 3, 1) := by decide +kernel
theorem dX11_keep_110 : decode cX11_keep 110 = .ok (.iload 4, 2) := by decide +kernel
theorem dX11_keep_112 : decode cX11_keep 112 = .ok (.iload 6, 2) := by decide +kernel
theorem dX11_keep_114 : decode cX11_keep 114 = .ok (.iload_n 2, 1) := by decide +kernel
theorem dX11_keep_115 : decode cX11_keep 115 = .ok (.invokevirtual 320, 3) := by decide +kernel
theorem dX11_keep_118 : decode cX11_keep 118 = .ok (.iadd, 1) := by decide +kernel
theorem dX11_keep_119 : decode cX11_keep 119 = .ok (.invokestatic 234, 3) := by decide +kernel
theorem dX11_keep_122 : decode cX11_keep 122 = .ok (.istore 7, 2) := by decide +kernel
theorem dX11_keep_124 : decode cX11_keep 124 = .ok (.aload_n 0, 1) := by decide +kernel
theorem dX11_keep_125 : decode cX11_keep 125 = .ok (.getfield 127, 3) := by decide +kernel
theorem dX11_keep_128 : decode cX11_keep 128 = .ok (.iload_n 3, 1) := by decide +kernel
theorem dX11_keep_129 : decode cX11_keep 129 = .ok (.iload 5, 2) := by decide +kernel
theorem dX11_keep_131 : decode cX11_keep 131 = .ok (.iload 6, 2) := by decide +kernel
theorem dX11_keep_133 : decode cX11_keep 133 = .ok (.invokestatic 314, 3) := by decide +kernel
theorem dX11_keep_136 : decode cX11_keep 136 = .ok (.iload 7, 2) := by decide +kernel
theorem dX11_keep_138 : decode cX11_keep 138 = .ok (.iastore, 1) := by decide +kernel
theorem dX11_keep_139 : decode cX11_keep 139 = .ok (.iinc 6 1, 3) := by decide +kernel
theorem dX11_keep_142 : decode cX11_keep 142 = .ok (.goto (-67), 3) := by decide +kernel
theorem dX11_keep_145 : decode cX11_keep 145 = .ok (.iinc 5 1, 3) := by decide +kernel
theorem dX11_keep_148 : decode cX11_keep 148 = .ok (.goto (-82), 3) := by decide +kernel
theorem dX11_keep_151 : decode cX11_keep 151 = .ok (.iinc 3 (-1), 3) := by decide +kernel
theorem dX11_keep_154 : decode cX11_keep 154 = .ok (.goto (-113), 3) := by decide +kernel
theorem dX11_keep_157 : decode cX11_keep 157 = .ok (.iconst 0, 1) := by decide +kernel
theorem dX11_keep_158 : decode cX11_keep 158 = .ok (.istore_n 3, 1) := by decide +kernel
theorem dX11_keep_159 : decode cX11_keep 159 = .ok (.iconst 0, 1) := by decide +kernel
theorem dX11_keep_160 : decode cX11_keep 160 = .ok (.istore 4, 2) := by decide +kernel
theorem dX11_keep_162 : decode cX11_keep 162 = .ok (.iload 4, 2) := by decide +kernel
theorem dX11_keep_164 : decode cX11_keep 164 = .ok (.aload_n 0, 1) := by decide +kernel
theorem dX11_keep_165 : decode cX11_keep 165 = .ok (.getfield 98, 3) := by decide +kernel
theorem dX11_keep_168 : decode cX11_keep 168 = .ok (.iconst 0, 1) := by decide +kernel
theorem dX11_keep_169 : decode cX11_keep 169 = .ok (.iaload, 1) := by decide +kernel
theorem dX11_keep_170 : decode cX11_keep 170 = .ok (.if_icmp .ge 41, 3) := by decide +kernel
theorem dX11_keep_173 : decode cX11_keep 173 = .ok (.aload_n 0, 1) := by decide +kernel
theorem dX11_keep_174 : decode cX11_keep 174 = .ok (.iload_n 1, 1) := by decide +kernel
theorem dX11_keep_175 : decode cX11_keep 175 = .ok (.iload 4, 2) := by decide +kernel
theorem dX11_keep_177 : decode cX11_keep 177 = .ok (.invokevirtual 240, 3) := by decide +kernel
theorem dX11_keep_180 : decode cX11_keep 180 = .ok (.ifCond .ne 6, 3) := by decide +kernel
theorem dX11_keep_183 : decode cX11_keep 183 = .ok (.goto 22, 3) := by decide +kernel
theorem dX11_keep_186 : decode cX11_keep 186 = .ok (.aload_n 0, 1) := by decide +kernel
theorem dX11_keep_187 : decode cX11_keep 187 = .ok (.iload 4, 2) := by decide +kernel
theorem dX11_keep_189 : decode cX11_keep 189 = .ok (.iconst 0, 1) := by decide +kernel
theorem dX11_keep_190 : decode cX11_keep 190 = .ok (.iload_n 2, 1) := by decide +kernel
theorem dX11_keep_191 : decode cX11_keep 191 = .ok (.invokevirtual 311, 3) := by decide +kernel
theorem dX11_keep_194 : decode cX11_keep 194 = .ok (.istore 5, 2) := by decide +kernel
theorem dX11_keep_196 : decode cX11_keep 196 = .ok (.iload 5, 2) := by decide +kernel
theorem dX11_keep_198 : decode cX11_keep 198 = .ok (.iload_n 3, 1) := by decide +kernel
theorem dX11_keep_199 : decode cX11_keep 199 = .ok (.if_icmp .le 6, 3) := by decide +kernel
theorem dX11_keep_202 : decode cX11_keep 202 = .ok (.iload 5, 2) := by decide +kernel
theorem dX11_keep_204 : decode cX11_keep 204 = .ok (.istore_n 3, 1) := by decide +kernel
theorem dX11_keep_205 : decode cX11_keep 205 = .ok (.iinc 4 1, 3) := by decide +kernel
theorem dX11_keep_208 : decode cX11_keep 208 = .ok (.goto (-46), 3) := by decide +kernel
theorem dX11_keep_211 : decode cX11_keep 211 = .ok (.aload_n 0, 1) := by decide +kernel
theorem dX11_keep_212 : decode cX11_keep 212 = .ok (.getfield 127, 3) := by decide +kernel
theorem dX11_keep_215 : decode cX11_keep 215 = .ok (.iconst 0, 1) := by decide +kernel
theorem dX11_keep_216 : decode cX11_keep 216 = .ok (.iload_n 3, 1) := by decide +kernel
theorem dX11_keep_217 : decode cX11_keep 217 = .ok (.aload_n 0, 1) := by decide +kernel
theorem dX11_keep_218 : decode cX11_keep 218 = .ok (.getfield 98, 3) := by decide +kernel
theorem dX11_keep_221 : decode cX11_keep 221 = .ok (.bipush 39, 2) := by decide +kernel
theorem dX11_keep_223 : decode cX11_keep 223 = .ok (.iload_n 1, 1) := by decide +kernel
theorem dX11_keep_224 : decode cX11_keep 224 = .ok (.iadd, 1) := by decide +kernel
theorem dX11_keep_225 : decode cX11_keep 225 = .ok (.iaload, 1) := by decide +kernel
theorem dX11_keep_226 : decode cX11_keep 226 = .ok (.invokestatic 314, 3) := by decide +kernel
theorem dX11_keep_229 : decode cX11_keep 229 = .ok (.iaload, 1) := by decide +kernel
theorem dX11_keep_230 : decode cX11_keep 230 = .ok (.istore 4, 2) := by decide +kernel
theorem dX11_keep_232 : decode cX11_keep 232 = .ok (.iload 4, 2) := by decide +kernel
theorem dX11_keep_234 : decode cX11_keep 234 = .ok (.ldc 226, 2) := by decide +kernel
theorem dX11_keep_236 : decode cX11_keep 236 = .ok (.if_icmp .lt 7, 3) := by decide +kernel
theorem dX11_keep_239 : decode cX11_keep 239 = .ok (.iconst (-1), 1) := by decide +kernel
theorem dX11_keep_240 : decode cX11_keep 240 = .ok (.goto 5, 3) := by decide +kernel
theorem dX11_keep_243 : decode cX11_keep 243 = .ok (.iload 4, 2) := by decide +kernel
theorem dX11_keep_245 : decode cX11_keep 245 = .ok (.ireturn, 1) := by decide +kernel
def fX11_keep_J124_75 (N : Nat) (rc : Int32 → Mem → Option (Mem)) (v0 : Nat) (v1 : Int32) (v2 : Int32) (v3 : Int32) (v4 : Int32) (v5 : Int32) (v6 : Int32) (v7 : Int32) (M : Mem) : Option (Mem) := ((fR M 11 v0 25).bind fun x125 => ((fX11_cellOf N v3 v5 v6 M).bind fun (x133, M133) => ((tI M133 x125 x133 v7).bind fun M138 => rc (v6 + 1) M138)))
def fX11_keep_L75 (N : Nat) (v0 : Nat) (v1 : Int32) (v2 : Int32) (v3 : Int32) (v4 : Int32) (v5 : Int32) : Nat → Int32 → Mem → Option (Mem)
  | 0, _, _ => none
  | n + 1, v6, M => ((fR M 11 v0 14).bind fun x78 => ((aI M x78 4).bind fun x82 => (if x82 ≤ v6 then some M else (if mK M v0 = 12 then ((fX11_oftenBy N v0 v3 v5 v6 v2 M).bind fun (x93, M93) => (if v4 ≤ v5 then fX11_keep_J124_75 N (fX11_keep_L75 N v0 v1 v2 v3 v4 v5 n) v0 v1 v2 v3 v4 v5 v6 x93 M93 else (if mK M93 v0 = 12 then ((fX11_oftenBy N v0 v3 v4 v6 v2 M93).bind fun (x115, M115) => ((fX11_least N x93 (1 + x115) M115).bind fun (x119, M119) => fX11_keep_J124_75 N (fX11_keep_L75 N v0 v1 v2 v3 v4 v5 n) v0 v1 v2 v3 v4 v5 v6 x119 M119)) else none))) else none))))
def fX11_keep_L66 (N : Nat) (v0 : Nat) (v1 : Int32) (v2 : Int32) (v3 : Int32) (v4 : Int32) : Nat → Int32 → Mem → Option (Mem)
  | 0, _, _ => none
  | n + 1, v5, M => (if v2 < v5 then some M else ((fX11_keep_L75 N v0 v1 v2 v3 v4 v5 N 0 M).bind fun o75 => fX11_keep_L66 N v0 v1 v2 v3 v4 n (v5 + 1) o75))
def fX11_keep_J61_41 (N : Nat) (rc : Int32 → Mem → Option (Mem)) (v0 : Nat) (v1 : Int32) (v2 : Int32) (v3 : Int32) (s0 : Int32) (M : Mem) : Option (Mem) := ((fX11_keep_L66 N v0 v1 v2 v3 s0 N 0 M).bind fun o66 => rc (v3 + (-1)) o66)
def fX11_keep_L41 (N : Nat) (v0 : Nat) (v1 : Int32) (v2 : Int32) : Nat → Int32 → Mem → Option (Mem)
  | 0, _, _ => none
  | n + 1, v3, M => (if v3 < 0 then some M else (if v2 ≤ v3 then fX11_keep_J61_41 N (fX11_keep_L41 N v0 v1 v2 n) v0 v1 v2 v3 ((-1)) M else (if mK M v0 = 12 then ((fX11_bestUntil N v0 v1 v3 v2 M).bind fun (x54, M54) => fX11_keep_J61_41 N (fX11_keep_L41 N v0 v1 v2 n) v0 v1 v2 v3 x54 M54) else none)))
def fX11_keep_L162 (N : Nat) (v0 : Nat) (v1 : Int32) (v2 : Int32) : Nat → Int32 → Int32 → Mem → Option (Int32 × Mem)
  | 0, _, _, _ => none
  | n + 1, v3, v4, M => ((fR M 11 v0 14).bind fun x165 => ((aI M x165 0).bind fun x169 => (if x169 ≤ v4 then some (v3, M) else (if mK M v0 = 12 then ((fX11_isReadIn N v0 v1 v4 M).bind fun (x177, M177) => (if x177 = 0 then fX11_keep_L162 N v0 v1 v2 n v3 (v4 + 1) M177 else (if mK M177 v0 = 12 then ((fX11_washedBy N v0 v4 0 v2 M177).bind fun (x191, M191) => (if x191 ≤ v3 then fX11_keep_L162 N v0 v1 v2 n v3 (v4 + 1) M191 else fX11_keep_L162 N v0 v1 v2 n x191 (v4 + 1) M191)) else none))) else none))))
def fX11_keep (N : Nat) (v0 : Nat) (v1 : Int32) (v2 : Int32) (M : Mem) : Option (Int32 × Mem) := ((pI M 11 v0 0 0).bind fun M2 => (if mK M2 v0 = 12 then ((fX11_isLaw N v0 v1 M2).bind fun (x7, M7) => (if x7 = 0 then some ((-1), M7) else ((fX11_isIn N v2 1 16 M7).bind fun (x17, M17) => (if x17 = 0 then some ((-1), M17) else ((fR M17 11 v0 14).bind fun x24 => ((aI M17 x24 38).bind fun x29 => ((fX11_has N x29 v1 M17).bind fun (x31, M31) => (if x31 = 0 then ((fX11_keep_L41 N v0 v1 v2 N v2 M31).bind fun o41 => ((fX11_keep_L162 N v0 v1 v2 N 0 0 o41).bind fun o162 => match o162 with | (w3_162, M162) => ((fR M162 11 v0 25).bind fun x212 => ((fR M162 11 v0 14).bind fun x218 => ((aI M162 x218 (39 + v1)).bind fun x225 => ((fX11_cellOf N 0 w3_162 x225 M162).bind fun (x226, M226) => ((aI M226 x212 x226).bind fun x229 => (if x229 < ((100000)) then some (x229, M226) else some ((-1), M226))))))))) else some ((-1), M31))))))))) else none))
set_option maxHeartbeats 4000000 in
set_option maxRecDepth 100000 in
theorem k_X11_keep (l : Launch) (b : Nat) (D : va_G) (cy : Nat → ClassId) (N : Nat) (v0 : Nat) (v1 : Int32) (v2 : Int32) (M : Mem) (r : Int32) (Mf : Mem) (h : fX11_keep N v0 v1 v2 M = some (r, Mf)) : Ct l yX11_keep cX11_keep 8 (some .int) 6 0 0 b D cy [.ref (b + v0), .int v1, .int v2] M (some (.int r)) Mf := by
  refine Ct_of (own := RX11) (by decide) rfl (Nat.le_of_ble_eq_true rfl) ?_
  intro p e s m args below meth c F hr hl hmn
  unfold fX11_keep at h
  show X p l e ({ frames := 6, cells := 0, slots := 0, locals := 100 * 6 }) s m args below meth c (MQ below (Qm b D cy (some (.int r)) Mf) args s 0 0 (fun q => b ≤ q)) 8 b D cy 0 0 M 0 [(0, .ref (b + v0)), (1, .int v1), (2, .int v2)] []
  refine x_aload_n F dX11_keep_0 rfl 0 rfl ?_
  refine x_iconst F (v := 0) dX11_keep_1 (by decide) ?_
  obtain ⟨M2, c2, h⟩ := bdS h
  refine x_putI F (ci := 11) (C := RX11) (T := TX11) (N := 45) rfl ⟨by decide, rfl⟩ inU11 tyX11_ok nmX11 0 (by decide) rfl rfl wl_845 c2 dX11_keep_2 ?_
  refine x_aload_n F dX11_keep_5 rfl 0 rfl ?_
  refine x_iload_n F dX11_keep_6 rfl 1 rfl ?_
  obtain ⟨k7, h⟩ := gdS h
  obtain ⟨⟨x7, M7⟩, c7, h⟩ := bdS h
  dsimp only at h
  refine x_callV F (As := [.int v1]) (rest := []) (res := (some (.int x7))) (ci := 11) (q := (RX11, TX11, 45)) rfl (by decide) k7 (k_X11_isLaw l b D cy N v0 v1 M2 _ _ c7) wl_1054 wl_1055 wl_1056 wl_854 wl_1000 hd_X11_isLaw ⟨Nat.le_of_ble_eq_true rfl, Nat.le_of_ble_eq_true rfl⟩ ⟨Nat.le_refl _, Nat.le_refl _⟩ (Nat.le_of_ble_eq_true rfl) rfl dX11_keep_7 ?_
  refine x_if_eq F (tgt := 37) dX11_keep_10 (by decide) (fun c10 => ?_) (fun c10 => ?_)
  · rw [if_pos c10] at h
    refine x_iconst F (v := (-1)) dX11_keep_37 (by decide) ?_
    obtain ⟨rfl, rfl⟩ := retS h
    exact x_iret F hr hl dX11_keep_38
  · rw [if_neg c10] at h
    refine x_iload_n F dX11_keep_13 rfl 2 rfl ?_
    refine x_iconst F (v := 1) dX11_keep_14 (by decide) ?_
    refine x_bipush F (v := 16) dX11_keep_15 (by decide) ?_
    obtain ⟨⟨x17, M17⟩, c17, h⟩ := bdS h
    dsimp only at h
    refine x_callS F (As := [.int v2, .int 1, .int 16]) (rest := []) (res := (some (.int x17))) (k_X11_isIn l b D cy N v2 1 16 M7 _ _ c17) wl_898 wl_899 wl_854 wl_857 (hd_X11_isIn).2 ⟨Nat.le_of_ble_eq_true rfl, Nat.le_of_ble_eq_true rfl⟩ ⟨Nat.le_refl _, Nat.le_refl _⟩ (Nat.le_of_ble_eq_true rfl) rfl dX11_keep_17 ?_
    refine x_if_eq F (tgt := 37) dX11_keep_20 (by decide) (fun c20 => ?_) (fun c20 => ?_)
    · rw [if_pos c20] at h
      refine x_iconst F (v := (-1)) dX11_keep_37 (by decide) ?_
      obtain ⟨rfl, rfl⟩ := retS h
      exact x_iret F hr hl dX11_keep_38
    · rw [if_neg c20] at h
      refine x_aload_n F dX11_keep_23 rfl 0 rfl ?_
      obtain ⟨x24, c24, h⟩ := bdS h
      refine x_getR F (ci := 11) (C := RX11) (T := TX11) (N := 45) rfl ⟨by decide, rfl⟩ inU11 14 (by decide) (fun _ _ _ => rfl) wl_913 c24 dX11_keep_24 ?_
      refine x_bipush F (v := 38) dX11_keep_27 (by decide) ?_
      obtain ⟨x29, c29, h⟩ := bdS h
      refine x_aI F c29 dX11_keep_29 ?_
      refine x_iload_n F dX11_keep_30 rfl 1 rfl ?_
      obtain ⟨⟨x31, M31⟩, c31, h⟩ := bdS h
      dsimp only at h
      refine x_callS F (As := [.int x29, .int v1]) (rest := []) (res := (some (.int x31))) (k_X11_has l b D cy N x29 v1 M17 _ _ c31) wl_1057 wl_1058 wl_854 wl_858 (hd_X11_has).2 ⟨Nat.le_of_ble_eq_true rfl, Nat.le_of_ble_eq_true rfl⟩ ⟨Nat.le_refl _, Nat.le_refl _⟩ (Nat.le_of_ble_eq_true rfl) rfl dX11_keep_31 ?_
      refine x_if_eq F (tgt := 39) dX11_keep_34 (by decide) (fun c34 => ?_) (fun c34 => ?_)
      · rw [if_pos c34] at h
        refine x_iload_n F dX11_keep_39 rfl 2 rfl ?_
        refine x_istore_n F (lv' := [(3, .int v2), (0, .ref (b + v0)), (1, .int v1), (2, .int v2)]) dX11_keep_40 rfl (by decide) rfl ?_
        have L41 : ∀ (v0 : Nat) (v1 : Int32) (v2 : Int32) (n : Nat) (v3 : Int32) (M : Mem) (o : Mem), fX11_keep_L41 N v0 v1 v2 n v3 M = some o → X p l e ({ frames := 6, cells := 0, slots := 0, locals := 100 * 6 }) s m args below meth c (MQ below (Qm b D cy (some (.int r)) Mf) args s 0 0 (fun q => b ≤ q)) 8 b D cy 0 0 o 157 [(0, .ref (b + v0)), (1, .int v1), (2, .int v2)] [] → X p l e ({ frames := 6, cells := 0, slots := 0, locals := 100 * 6 }) s m args below meth c (MQ below (Qm b D cy (some (.int r)) Mf) args s 0 0 (fun q => b ≤ q)) 8 b D cy 0 0 M 41 [(0, .ref (b + v0)), (1, .int v1), (2, .int v2), (3, .int v3)] [] := by
          intro v0 v1 v2 n
          induction n with
          | zero => intro v3 M o h; exact absurd h (by rw [fX11_keep_L41]; exact fun z => by cases z)
          | succ n ih =>
            intro v3 M o h hE
            rw [fX11_keep_L41] at h
            have J61 : ∀ (v3 : Int32) (s0 : Int32) (M : Mem), fX11_keep_J61_41 N (fX11_keep_L41 N v0 v1 v2 n) v0 v1 v2 v3 s0 M = some o → X p l e ({ frames := 6, cells := 0, slots := 0, locals := 100 * 6 }) s m args below meth c (MQ below (Qm b D cy (some (.int r)) Mf) args s 0 0 (fun q => b ≤ q)) 8 b D cy 0 0 M 61 [(0, .ref (b + v0)), (1, .int v1), (2, .int v2), (3, .int v3)] [.int s0] := by
              intro v3 s0 M h
              unfold fX11_keep_J61_41 at h
              refine x_istore F (lv' := [(4, .int s0), (0, .ref (b + v0)), (1, .int v1), (2, .int v2), (3, .int v3)]) dX11_keep_61 (by decide) rfl ?_
              refine x_iconst F (v := 0) dX11_keep_63 (by decide) ?_
              refine x_istore F (lv' := [(5, .int 0), (4, .int s0), (0, .ref (b + v0)), (1, .int v1), (2, .int v2), (3, .int v3)]) dX11_keep_64 (by decide) rfl ?_
              have L66 : ∀ (v0 : Nat) (v1 : Int32) (v2 : Int32) (v3 : Int32) (v4 : Int32) (n : Nat) (v5 : Int32) (M : Mem) (o : Mem), fX11_keep_L66 N v0 v1 v2 v3 v4 n v5 M = some o → X p l e ({ frames := 6, cells := 0, slots := 0, locals := 100 * 6 }) s m args below meth c (MQ below (Qm b D cy (some (.int r)) Mf) args s 0 0 (fun q => b ≤ q)) 8 b D cy 0 0 o 151 [(0, .ref (b + v0)), (1, .int v1), (2, .int v2), (3, .int v3)] [] → X p l e ({ frames := 6, cells := 0, slots := 0, locals := 100 * 6 }) s m args below meth c (MQ below (Qm b D cy (some (.int r)) Mf) args s 0 0 (fun q => b ≤ q)) 8 b D cy 0 0 M 66 [(0, .ref (b + v0)), (1, .int v1), (2, .int v2), (3, .int v3), (4, .int v4), (5, .int v5)] [] := by
                intro v0 v1 v2 v3 v4 n
                induction n with
                | zero => intro v5 M o h; exact absurd h (by rw [fX11_keep_L66]; exact fun z => by cases z)
                | succ n ih =>
                  intro v5 M o h hE
                  rw [fX11_keep_L66] at h
                  refine x_iload F dX11_keep_66 5 rfl ?_
                  refine x_iload_n F dX11_keep_68 rfl 2 rfl ?_
                  refine x_icmp_gt F (tgt := 151) dX11_keep_69 (by decide) (fun c69 => ?_) (fun c69 => ?_)
                  · rw [if_pos c69] at h
                    obtain rfl := Option.some.inj h
                    refine x_sub [0, 1, 2, 3] rfl ?_
                    exact hE
                  · rw [if_neg c69] at h
                    refine x_iconst F (v := 0) dX11_keep_72 (by decide) ?_
                    refine x_istore F (lv' := [(6, .int 0), (0, .ref (b + v0)), (1, .int v1), (2, .int v2), (3, .int v3), (4, .int v4), (5, .int v5)]) dX11_keep_73 (by decide) rfl ?_
                    have L75 : ∀ (v0 : Nat) (v1 : Int32) (v2 : Int32) (v3 : Int32) (v4 : Int32) (v5 : Int32) (n : Nat) (v6 : Int32) (M : Mem) (o : Mem), fX11_keep_L75 N v0 v1 v2 v3 v4 v5 n v6 M = some o → X p l e ({ frames := 6, cells := 0, slots := 0, locals := 100 * 6 }) s m args below meth c (MQ below (Qm b D cy (some (.int r)) Mf) args s 0 0 (fun q => b ≤ q)) 8 b D cy 0 0 o 145 [(0, .ref (b + v0)), (1, .int v1), (2, .int v2), (3, .int v3), (4, .int v4), (5, .int v5)] [] → X p l e ({ frames := 6, cells := 0, slots := 0, locals := 100 * 6 }) s m args below meth c (MQ below (Qm b D cy (some (.int r)) Mf) args s 0 0 (fun q => b ≤ q)) 8 b D cy 0 0 M 75 [(0, .ref (b + v0)), (1, .int v1), (2, .int v2), (3, .int v3), (4, .int v4), (5, .int v5), (6, .int v6)] [] := by
                      intro v0 v1 v2 v3 v4 v5 n
                      induction n with
                      | zero => intro v6 M o h; exact absurd h (by rw [fX11_keep_L75]; exact fun z => by cases z)
                      | succ n ih =>
                        intro v6 M o h hE
                        rw [fX11_keep_L75] at h
                        have J124 : ∀ (v6 : Int32) (v7 : Int32) (M : Mem), fX11_keep_J124_75 N (fX11_keep_L75 N v0 v1 v2 v3 v4 v5 n) v0 v1 v2 v3 v4 v5 v6 v7 M = some o → X p l e ({ frames := 6, cells := 0, slots := 0, locals := 100 * 6 }) s m args below meth c (MQ below (Qm b D cy (some (.int r)) Mf) args s 0 0 (fun q => b ≤ q)) 8 b D cy 0 0 M 124 [(0, .ref (b + v0)), (1, .int v1), (2, .int v2), (3, .int v3), (4, .int v4), (5, .int v5), (6, .int v6), (7, .int v7)] [] := by
                          intro v6 v7 M h
                          unfold fX11_keep_J124_75 at h
                          refine x_aload_n F dX11_keep_124 rfl 0 rfl ?_
                          obtain ⟨x125, c125, h⟩ := bdS h
                          refine x_getR F (ci := 11) (C := RX11) (T := TX11) (N := 45) rfl ⟨by decide, rfl⟩ inU11 25 (by decide) (fun _ _ _ => rfl) wl_923 c125 dX11_keep_125 ?_
                          refine x_iload_n F dX11_keep_128 rfl 3 rfl ?_
                          refine x_iload F dX11_keep_129 5 rfl ?_
                          refine x_iload F dX11_keep_131 6 rfl ?_
                          obtain ⟨⟨x133, M133⟩, c133, h⟩ := bdS h
                          dsimp only at h
                          refine x_callS F (As := [.int v3, .int v5, .int v6]) (rest := [.ref (b + x125)]) (res := (some (.int x133))) (k_X11_cellOf l b D cy N v3 v5 v6 M _ _ c133) wl_1131 wl_1132 wl_854 wl_1129 (hd_X11_cellOf).2 ⟨Nat.le_of_ble_eq_true rfl, Nat.le_of_ble_eq_true rfl⟩ ⟨Nat.le_refl _, Nat.le_refl _⟩ (Nat.le_of_ble_eq_true rfl) rfl dX11_keep_133 ?_
                          refine x_iload F dX11_keep_136 7 rfl ?_
                          obtain ⟨M138, c138, h⟩ := bdS h
                          refine x_tI F c138 dX11_keep_138 ?_
                          refine x_iinc F (v := v6 + 1) (lv' := [(6, .int (v6 + 1)), (0, .ref (b + v0)), (1, .int v1), (2, .int v2), (3, .int v3), (4, .int v4), (5, .int v5), (7, .int v7)]) dX11_keep_139 6 rfl rfl (by decide) rfl ?_
                          refine x_goto F (tgt := 75) dX11_keep_142 (by decide) ?_
                          refine x_sub [1, 2, 3, 4, 5, 6, 0] rfl ?_
                          exact ih (v6 + 1) M138 o h hE
                        refine x_iload F dX11_keep_75 6 rfl ?_
                        refine x_aload_n F dX11_keep_77 rfl 0 rfl ?_
                        obtain ⟨x78, c78, h⟩ := bdS h
                        refine x_getR F (ci := 11) (C := RX11) (T := TX11) (N := 45) rfl ⟨by decide, rfl⟩ inU11 14 (by decide) (fun _ _ _ => rfl) wl_913 c78 dX11_keep_78 ?_
                        refine x_iconst F (v := 4) dX11_keep_81 (by decide) ?_
                        obtain ⟨x82, c82, h⟩ := bdS h
                        refine x_aI F c82 dX11_keep_82 ?_
                        refine x_icmp_ge F (tgt := 145) dX11_keep_83 (by decide) (fun c83 => ?_) (fun c83 => ?_)
                        · rw [if_pos c83] at h
                          obtain rfl := Option.some.inj h
                          refine x_sub [0, 1, 2, 3, 4, 5] rfl ?_
                          exact hE
                        · rw [if_neg c83] at h
                          refine x_aload_n F dX11_keep_86 rfl 0 rfl ?_
                          refine x_iload_n F dX11_keep_87 rfl 3 rfl ?_
                          refine x_iload F dX11_keep_88 5 rfl ?_
                          refine x_iload F dX11_keep_90 6 rfl ?_
                          refine x_iload_n F dX11_keep_92 rfl 2 rfl ?_
                          obtain ⟨k93, h⟩ := gdS h
                          obtain ⟨⟨x93, M93⟩, c93, h⟩ := bdS h
                          dsimp only at h
                          refine x_callV F (As := [.int v3, .int v5, .int v6, .int v2]) (rest := []) (res := (some (.int x93))) (ci := 11) (q := (RX11, TX11, 45)) rfl (by decide) k93 (k_X11_oftenBy l b D cy N v0 v3 v5 v6 v2 M _ _ c93) wl_1137 wl_1138 wl_1139 wl_854 wl_1130 hd_X11_oftenBy ⟨Nat.le_of_ble_eq_true rfl, Nat.le_of_ble_eq_true rfl⟩ ⟨Nat.le_refl _, Nat.le_refl _⟩ (Nat.le_of_ble_eq_true rfl) rfl dX11_keep_93 ?_
                          refine x_istore F (lv' := [(7, .int x93), (0, .ref (b + v0)), (1, .int v1), (2, .int v2), (3, .int v3), (4, .int v4), (5, .int v5), (6, .int v6)]) dX11_keep_96 (by decide) rfl ?_
                          refine x_iload F dX11_keep_98 5 rfl ?_
                          refine x_iload F dX11_keep_100 6 rfl ?_
                          refine x_icmp_le F (tgt := 124) dX11_keep_102 (by decide) (fun c102 => ?_) (fun c102 => ?_)
                          · rw [if_pos c102] at h
                            refine x_sub [1, 2, 3, 4, 5, 6, 7, 0] rfl ?_
                            exact J124 v6 x93 M93 h
                          · rw [if_neg c102] at h
                            refine x_iload F dX11_keep_105 0 rfl ?_
                            refine x_iconst F (v := 1) dX11_keep_107 (by decide) ?_
                            refine x_aload_n F dX11_keep_108 rfl 1 rfl ?_
                            refine x_iload_n F dX11_keep_109 rfl 4 rfl ?_
                            refine x_iload F dX11_keep_110 5 rfl ?_
                            refine x_iload F dX11_keep_112 7 rfl ?_
                            refine x_iload_n F dX11_keep_114 rfl 3 rfl ?_
                            obtain ⟨k115, h⟩ := gdS h
                            obtain ⟨⟨x115, M115⟩, c115, h⟩ := bdS h
                            dsimp only at h
                            refine x_callV F (As := [.int v3, .int v4, .int v6, .int v2]) (rest := [.int 1, .int x93]) (res := (some (.int x115))) (ci := 11) (q := (RX11, TX11, 45)) rfl (by decide) k115 (k_X11_oftenBy l b D cy N v0 v3 v4 v6 v2 M93 _ _ c115) wl_1137 wl_1138 wl_1139 wl_854 wl_1130 hd_X11_oftenBy ⟨Nat.le_of_ble_eq_true rfl, Nat.le_of_ble_eq_true rfl⟩ ⟨Nat.le_refl _, Nat.le_refl _⟩ (Nat.le_of_ble_eq_true rfl) rfl dX11_keep_115 ?_
                            refine x_iadd F dX11_keep_118 ?_
                            obtain ⟨⟨x119, M119⟩, c119, h⟩ := bdS h
                            dsimp only at h
                            refine x_callS F (As := [.int x93, .int (1 + x115)]) (rest := []) (res := (some (.int x119))) (k_X11_least l b D cy N x93 (1 + x115) M115 _ _ c119) wl_1022 wl_1023 wl_854 wl_860 (hd_X11_least).2 ⟨Nat.le_of_ble_eq_true rfl, Nat.le_of_ble_eq_true rfl⟩ ⟨Nat.le_refl _, Nat.le_refl _⟩ (Nat.le_of_ble_eq_true rfl) rfl dX11_keep_119 ?_
                            refine x_istore F (lv' := [(7, .int x119), (0, .ref (b + v0)), (1, .int v1), (2, .int v2), (3, .int v3), (4, .int v4), (5, .int v5), (6, .int v6)]) dX11_keep_122 (by decide) rfl ?_
                            refine x_sub [1, 2, 3, 4, 5, 6, 7, 0] rfl ?_
                            exact J124 v6 x119 M119 h
                    obtain ⟨o75, h75, h⟩ := bdS h
                    refine x_sub [1, 2, 3, 4, 5, 6, 0] rfl ?_
                    refine L75 v0 v1 v2 v3 v4 v5 N 0 M o75 h75 ?_
                    refine x_iinc F (v := v5 + 1) (lv' := [(5, .int (v5 + 1)), (0, .ref (b + v0)), (1, .int v1), (2, .int v2), (3, .int v3), (4, .int v4)]) dX11_keep_145 5 rfl rfl (by decide) rfl ?_
                    refine x_goto F (tgt := 66) dX11_keep_148 (by decide) ?_
                    refine x_sub [1, 2, 3, 4, 5, 0] rfl ?_
                    exact ih (v5 + 1) o75 o h hE
              obtain ⟨o66, h66, h⟩ := bdS h
              refine x_sub [2, 3, 4, 5, 1, 0] rfl ?_
              refine L66 v0 v1 v2 v3 s0 N 0 M o66 h66 ?_
              refine x_iinc F (v := v3 + (-1)) (lv' := [(3, .int (v3 + (-1))), (0, .ref (b + v0)), (1, .int v1), (2, .int v2)]) dX11_keep_151 3 rfl rfl (by decide) rfl ?_
              refine x_goto F (tgt := 41) dX11_keep_154 (by decide) ?_
              refine x_sub [1, 2, 3, 0] rfl ?_
              exact ih (v3 + (-1)) o66 o h hE
            refine x_iload_n F dX11_keep_41 rfl 3 rfl ?_
            refine x_if_lt F (tgt := 157) dX11_keep_42 (by decide) (fun c42 => ?_) (fun c42 => ?_)
            · rw [if_pos c42] at h
              obtain rfl := Option.some.inj h
              refine x_sub [0, 1, 2] rfl ?_
              exact hE
            · rw [if_neg c42] at h
              refine x_iload_n F dX11_keep_45 rfl 3 rfl ?_
              refine x_iload_n F dX11_keep_46 rfl 2 rfl ?_
              refine x_icmp_ge F (tgt := 60) dX11_keep_47 (by decide) (fun c47 => ?_) (fun c47 => ?_)
              · rw [if_pos c47] at h
                refine x_iconst F (v := (-1)) dX11_keep_60 (by decide) ?_
                exact J61 v3 ((-1)) M h
              · rw [if_neg c47] at h
                refine x_aload_n F dX11_keep_50 rfl 0 rfl ?_
                refine x_iload_n F dX11_keep_51 rfl 1 rfl ?_
                refine x_iload_n F dX11_keep_52 rfl 3 rfl ?_
                refine x_iload_n F dX11_keep_53 rfl 2 rfl ?_
                obtain ⟨k54, h⟩ := gdS h
                obtain ⟨⟨x54, M54⟩, c54, h⟩ := bdS h
                dsimp only at h
                refine x_callV F (As := [.int v1, .int v3, .int v2]) (rest := []) (res := (some (.int x54))) (ci := 11) (q := (RX11, TX11, 45)) rfl (by decide) k54 (k_X11_bestUntil l b D cy N v0 v1 v3 v2 M _ _ c54) wl_1134 wl_1135 wl_1136 wl_854 wl_1133 hd_X11_bestUntil ⟨Nat.le_of_ble_eq_true rfl, Nat.le_of_ble_eq_true rfl⟩ ⟨Nat.le_refl _, Nat.le_refl _⟩ (Nat.le_of_ble_eq_true rfl) rfl dX11_keep_54 ?_
                refine x_goto F (tgt := 61) dX11_keep_57 (by decide) ?_
                exact J61 v3 x54 M54 h
        obtain ⟨o41, h41, h⟩ := bdS h
        refine x_sub [1, 2, 3, 0] rfl ?_
        refine L41 v0 v1 v2 N v2 M31 o41 h41 ?_
        refine x_iconst F (v := 0) dX11_keep_157 (by decide) ?_
        refine x_istore_n F (lv' := [(3, .int 0), (0, .ref (b + v0)), (1, .int v1), (2, .int v2)]) dX11_keep_158 rfl (by decide) rfl ?_
        refine x_iconst F (v := 0) dX11_keep_159 (by decide) ?_
        refine x_istore F (lv' := [(4, .int 0), (3, .int 0), (0, .ref (b + v0)), (1, .int v1), (2, .int v2)]) dX11_keep_160 (by decide) rfl ?_
        have L162 : ∀ (v0 : Nat) (v1 : Int32) (v2 : Int32) (n : Nat) (v3 : Int32) (v4 : Int32) (M : Mem) (o : Int32 × Mem), fX11_keep_L162 N v0 v1 v2 n v3 v4 M = some o → (∀ (w3 : Int32) (M' : Mem), o = (w3, M') → X p l e ({ frames := 6, cells := 0, slots := 0, locals := 100 * 6 }) s m args below meth c (MQ below (Qm b D cy (some (.int r)) Mf) args s 0 0 (fun q => b ≤ q)) 8 b D cy 0 0 M' 211 [(0, .ref (b + v0)), (1, .int v1), (3, .int w3)] []) → X p l e ({ frames := 6, cells := 0, slots := 0, locals := 100 * 6 }) s m args below meth c (MQ below (Qm b D cy (some (.int r)) Mf) args s 0 0 (fun q => b ≤ q)) 8 b D cy 0 0 M 162 [(0, .ref (b + v0)), (1, .int v1), (2, .int v2), (3, .int v3), (4, .int v4)] [] := by
          intro v0 v1 v2 n
          induction n with
          | zero => intro v3 v4 M o h; exact absurd h (by rw [fX11_keep_L162]; exact fun z => by cases z)
          | succ n ih =>
            intro v3 v4 M o h hE
            rw [fX11_keep_L162] at h
            refine x_iload F dX11_keep_162 4 rfl ?_
            refine x_aload_n F dX11_keep_164 rfl 0 rfl ?_
            obtain ⟨x165, c165, h⟩ := bdS h
            refine x_getR F (ci := 11) (C := RX11) (T := TX11) (N := 45) rfl ⟨by decide, rfl⟩ inU11 14 (by decide) (fun _ _ _ => rfl) wl_913 c165 dX11_keep_165 ?_
            refine x_iconst F (v := 0) dX11_keep_168 (by decide) ?_
            obtain ⟨x169, c169, h⟩ := bdS h
            refine x_aI F c169 dX11_keep_169 ?_
            refine x_icmp_ge F (tgt := 211) dX11_keep_170 (by decide) (fun c170 => ?_) (fun c170 => ?_)
            · rw [if_pos c170] at h
              obtain rfl := Option.some.inj h
              refine x_sub [0, 1, 3] rfl ?_
              exact hE _ _ rfl
            · rw [if_neg c170] at h
              refine x_aload_n F dX11_keep_173 rfl 0 rfl ?_
              refine x_iload_n F dX11_keep_174 rfl 1 rfl ?_
              refine x_iload F dX11_keep_175 4 rfl ?_
              obtain ⟨k177, h⟩ := gdS h
              obtain ⟨⟨x177, M177⟩, c177, h⟩ := bdS h
              dsimp only at h
              refine x_callV F (As := [.int v1, .int v4]) (rest := []) (res := (some (.int x177))) (ci := 11) (q := (RX11, TX11, 45)) rfl (by decide) k177 (k_X11_isReadIn l b D cy N v0 v1 v4 M _ _ c177) wl_1029 wl_1030 wl_1031 wl_854 wl_1028 hd_X11_isReadIn ⟨Nat.le_of_ble_eq_true rfl, Nat.le_of_ble_eq_true rfl⟩ ⟨Nat.le_refl _, Nat.le_refl _⟩ (Nat.le_of_ble_eq_true rfl) rfl dX11_keep_177 ?_
              refine x_if_ne F (tgt := 186) dX11_keep_180 (by decide) (fun c180 => ?_) (fun c180 => ?_)
              · rw [if_neg c180] at h
                refine x_aload_n F dX11_keep_186 rfl 0 rfl ?_
                refine x_iload F dX11_keep_187 4 rfl ?_
                refine x_iconst F (v := 0) dX11_keep_189 (by decide) ?_
                refine x_iload_n F dX11_keep_190 rfl 2 rfl ?_
                obtain ⟨k191, h⟩ := gdS h
                obtain ⟨⟨x191, M191⟩, c191, h⟩ := bdS h
                dsimp only at h
                refine x_callV F (As := [.int v4, .int 0, .int v2]) (rest := []) (res := (some (.int x191))) (ci := 11) (q := (RX11, TX11, 45)) rfl (by decide) k191 (k_X11_washedBy l b D cy N v0 v4 0 v2 M177 _ _ c191) wl_1126 wl_1127 wl_1128 wl_854 wl_1124 hd_X11_washedBy ⟨Nat.le_of_ble_eq_true rfl, Nat.le_of_ble_eq_true rfl⟩ ⟨Nat.le_refl _, Nat.le_refl _⟩ (Nat.le_of_ble_eq_true rfl) rfl dX11_keep_191 ?_
                refine x_istore F (lv' := [(5, .int x191), (0, .ref (b + v0)), (1, .int v1), (2, .int v2), (3, .int v3), (4, .int v4)]) dX11_keep_194 (by decide) rfl ?_
                refine x_iload F dX11_keep_196 0 rfl ?_
                refine x_iload_n F dX11_keep_198 rfl 4 rfl ?_
                refine x_icmp_le F (tgt := 205) dX11_keep_199 (by decide) (fun c199 => ?_) (fun c199 => ?_)
                · rw [if_pos c199] at h
                  refine x_iinc F (v := v4 + 1) (lv' := [(4, .int (v4 + 1)), (5, .int x191), (0, .ref (b + v0)), (1, .int v1), (2, .int v2), (3, .int v3)]) dX11_keep_205 5 rfl rfl (by decide) rfl ?_
                  refine x_goto F (tgt := 162) dX11_keep_208 (by decide) ?_
                  refine x_sub [2, 3, 4, 5, 0] rfl ?_
                  exact ih v3 (v4 + 1) M191 o h hE
                · rw [if_neg c199] at h
                  refine x_iload F dX11_keep_202 0 rfl ?_
                  refine x_istore_n F (lv' := [(3, .int x191), (5, .int x191), (0, .ref (b + v0)), (1, .int v1), (2, .int v2), (4, .int v4)]) dX11_keep_204 rfl (by decide) rfl ?_
                  refine x_iinc F (v := v4 + 1) (lv' := [(4, .int (v4 + 1)), (3, .int x191), (5, .int x191), (0, .ref (b + v0)), (1, .int v1), (2, .int v2)]) dX11_keep_205 5 rfl rfl (by decide) rfl ?_
                  refine x_goto F (tgt := 162) dX11_keep_208 (by decide) ?_
                  refine x_sub [3, 4, 5, 1, 0] rfl ?_
                  exact ih x191 (v4 + 1) M191 o h hE
              · rw [if_pos c180] at h
                refine x_goto F (tgt := 205) dX11_keep_183 (by decide) ?_
                refine x_iinc F (v := v4 + 1) (lv' := [(4, .int (v4 + 1)), (0, .ref (b + v0)), (1, .int v1), (2, .int v2), (3, .int v3)]) dX11_keep_205 4 rfl rfl (by decide) rfl ?_
                refine x_goto F (tgt := 162) dX11_keep_208 (by decide) ?_
                refine x_sub [1, 2, 3, 4, 0] rfl ?_
                exact ih v3 (v4 + 1) M177 o h hE
        obtain ⟨o162, h162, h⟩ := bdS h
        refine x_sub [2, 3, 4, 1, 0] rfl ?_
        refine L162 v0 v1 v2 N 0 0 o41 o162 h162 (fun w3_162 M162 e => ?_)
        · subst e
          dsimp only at h
          refine x_aload_n F dX11_keep_211 rfl 0 rfl ?_
          obtain ⟨x212, c212, h⟩ := bdS h
          refine x_getR F (ci := 11) (C := RX11) (T := TX11) (N := 45) rfl ⟨by decide, rfl⟩ inU11 25 (by decide) (fun _ _ _ => rfl) wl_923 c212 dX11_keep_212 ?_
          refine x_iconst F (v := 0) dX11_keep_215 (by decide) ?_
          refine x_iload_n F dX11_keep_216 rfl 2 rfl ?_
          refine x_aload_n F dX11_keep_217 rfl 0 rfl ?_
          obtain ⟨x218, c218, h⟩ := bdS h
          refine x_getR F (ci := 11) (C := RX11) (T := TX11) (N := 45) rfl ⟨by decide, rfl⟩ inU11 14 (by decide) (fun _ _ _ => rfl) wl_913 c218 dX11_keep_218 ?_
          refine x_bipush F (v := 39) dX11_keep_221 (by decide) ?_
          refine x_iload_n F dX11_keep_223 rfl 1 rfl ?_
          refine x_iadd F dX11_keep_224 ?_
          obtain ⟨x225, c225, h⟩ := bdS h
          refine x_aI F c225 dX11_keep_225 ?_
          obtain ⟨⟨x226, M226⟩, c226, h⟩ := bdS h
          dsimp only at h
          refine x_callS F (As := [.int 0, .int w3_162, .int x225]) (rest := [.ref (b + x212)]) (res := (some (.int x226))) (k_X11_cellOf l b D cy N 0 w3_162 x225 M162 _ _ c226) wl_1131 wl_1132 wl_854 wl_1129 (hd_X11_cellOf).2 ⟨Nat.le_of_ble_eq_true rfl, Nat.le_of_ble_eq_true rfl⟩ ⟨Nat.le_refl _, Nat.le_refl _⟩ (Nat.le_of_ble_eq_true rfl) rfl dX11_keep_226 ?_
          obtain ⟨x229, c229, h⟩ := bdS h
          refine x_aI F c229 dX11_keep_229 ?_
          refine x_istore F (lv' := [(4, .int x229), (0, .ref (b + v0)), (1, .int v1), (3, .int w3_162)]) dX11_keep_230 (by decide) rfl ?_
          refine x_iload F dX11_keep_232 0 rfl ?_
          refine x_ldc F (v := (100000)) dX11_keep_234 wl_1010 ?_
          refine x_icmp_lt F (tgt := 243) dX11_keep_236 (by decide) (fun c236 => ?_) (fun c236 => ?_)
          · rw [if_pos c236] at h
            refine x_iload F dX11_keep_243 0 rfl ?_
            obtain ⟨rfl, rfl⟩ := retS h
            exact x_iret F hr hl dX11_keep_245
          · rw [if_neg c236] at h
            refine x_iconst F (v := (-1)) dX11_keep_239 (by decide) ?_
            refine x_goto F (tgt := 245) dX11_keep_240 (by decide) ?_
            obtain ⟨rfl, rfl⟩ := retS h
            exact x_iret F hr hl dX11_keep_245
      · rw [if_neg c34] at h
        refine x_iconst F (v := (-1)) dX11_keep_37 (by decide) ?_
        obtain ⟨rfl, rfl⟩ := retS h
        exact x_iret F hr hl dX11_keep_38
