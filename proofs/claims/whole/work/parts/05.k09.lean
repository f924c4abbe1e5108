theorem dX11_mend_0 : decode cX11_mend 0 = .ok (.aload_n 0, 1) := by decide +kernel
theorem dX11_mend_1 : decode cX11_mend 1 = .ok (.iconst 0, 1) := by decide +kernel
theorem dX11_mend_2 : decode cX11_mend 2 = .ok (.putfield 1, 3) := by decide +kernel
theorem dX11_mend_5 : decode cX11_mend 5 = .ok (.aload_n 0, 1) := by decide +kernel
theorem dX11_mend_6 : decode cX11_mend 6 = .ok (.iload_n 1, 1) := by decide +kernel
theorem dX11_mend_7 : decode cX11_mend 7 = .ok (.invokevirtual 258, 3) := by decide +kernel
theorem dX11_mend_10 : decode cX11_mend 10 = .ok (.ifCond .ne 5, 3) := by decide +kernel
theorem dX11_mend_13 : decode cX11_mend 13 = .ok (.iconst (-1), 1) := by decide +kernel
theorem dX11_mend_14 : decode cX11_mend 14 = .ok (.ireturn, 1) := by decide +kernel
theorem dX11_mend_15 : decode cX11_mend 15 = .ok (.ldc 226, 2) := by decide +kernel
theorem dX11_mend_17 : decode cX11_mend 17 = .ok (.istore_n 2, 1) := by decide +kernel
theorem dX11_mend_18 : decode cX11_mend 18 = .ok (.iconst 0, 1) := by decide +kernel
theorem dX11_mend_19 : decode cX11_mend 19 = .ok (.istore_n 3, 1) := by decide +kernel
theorem dX11_mend_20 : decode cX11_mend 20 = .ok (.iload_n 3, 1) := by decide +kernel
theorem dX11_mend_21 : decode cX11_mend 21 = .ok (.aload_n 0, 1) := by decide +kernel
theorem dX11_mend_22 : decode cX11_mend 22 = .ok (.getfield 98, 3) := by decide +kernel
theorem dX11_mend_25 : decode cX11_mend 25 = .ok (.iconst 0, 1) := by decide +kernel
theorem dX11_mend_26 : decode cX11_mend 26 = .ok (.iaload, 1) := by decide +kernel
theorem dX11_mend_27 : decode cX11_mend 27 = .ok (.if_icmp .ge 20, 3) := by decide +kernel
theorem dX11_mend_30 : decode cX11_mend 30 = .ok (.iload_n 2, 1) := by decide +kernel
theorem dX11_mend_31 : decode cX11_mend 31 = .ok (.aload_n 0, 1) := by decide +kernel
theorem dX11_mend_32 : decode cX11_mend 32 = .ok (.iload_n 1, 1) := by decide +kernel
theorem dX11_mend_33 : decode cX11_mend 33 = .ok (.iload_n 3, 1) := by decide +kernel
theorem dX11_mend_34 : decode cX11_mend 34 = .ok (.invokevirtual 237, 3) := by decide +kernel
theorem dX11_mend_37 : decode cX11_mend 37 = .ok (.invokestatic 234, 3) := by decide +kernel
theorem dX11_mend_40 : decode cX11_mend 40 = .ok (.istore_n 2, 1) := by decide +kernel
theorem dX11_mend_41 : decode cX11_mend 41 = .ok (.iinc 3 1, 3) := by decide +kernel
theorem dX11_mend_44 : decode cX11_mend 44 = .ok (.goto (-24), 3) := by decide +kernel
theorem dX11_mend_47 : decode cX11_mend 47 = .ok (.iload_n 2, 1) := by decide +kernel
theorem dX11_mend_48 : decode cX11_mend 48 = .ok (.ldc 226, 2) := by decide +kernel
theorem dX11_mend_50 : decode cX11_mend 50 = .ok (.if_icmp .lt 5, 3) := by decide +kernel
theorem dX11_mend_53 : decode cX11_mend 53 = .ok (.iconst (-1), 1) := by decide +kernel
theorem dX11_mend_54 : decode cX11_mend 54 = .ok (.ireturn, 1) := by decide +kernel
theorem dX11_mend_55 : decode cX11_mend 55 = .ok (.iconst 0, 1) := by decide +kernel
theorem dX11_mend_56 : decode cX11_mend 56 = .ok (.istore_n 3, 1) := by decide +kernel
theorem dX11_mend_57 : decode cX11_mend 57 = .ok (.aload_n 0, 1) := by decide +kernel
theorem dX11_mend_58 : decode cX11_mend 58 = .ok (.iload_n 1, 1) := by decide +kernel
theorem dX11_mend_59 : decode cX11_mend 59 = .ok (.iload_n 3, 1) := by decide +kernel
theorem dX11_mend_60 : decode cX11_mend 60 = .ok (.invokevirtual 237, 3) := by decide +kernel
theorem dX11_mend_63 : decode cX11_mend 63 = .ok (.iload_n 2, 1) := by decide +kernel
theorem dX11_mend_64 : decode cX11_mend 64 = .ok (.if_icmp .eq 9, 3) := by decide +kernel
theorem dX11_mend_67 : decode cX11_mend 67 = .ok (.iinc 3 1, 3) := by decide +kernel
theorem dX11_mend_70 : decode cX11_mend 70 = .ok (.goto (-13), 3) := by decide +kernel
theorem dX11_mend_73 : decode cX11_mend 73 = .ok (.iconst 0, 1) := by decide +kernel
theorem dX11_mend_74 : decode cX11_mend 74 = .ok (.istore 4, 2) := by decide +kernel
theorem dX11_mend_76 : decode cX11_mend 76 = .ok (.aload_n 0, 1) := by decide +kernel
theorem dX11_mend_77 : decode cX11_mend 77 = .ok (.iload_n 1, 1) := by decide +kernel
theorem dX11_mend_78 : decode cX11_mend 78 = .ok (.iload_n 3, 1) := by decide +kernel
theorem dX11_mend_79 : decode cX11_mend 79 = .ok (.iload 4, 2) := by decide +kernel
theorem dX11_mend_81 : decode cX11_mend 81 = .ok (.invokevirtual 230, 3) := by decide +kernel
theorem dX11_mend_84 : decode cX11_mend 84 = .ok (.iload_n 2, 1) := by decide +kernel
theorem dX11_mend_85 : decode cX11_mend 85 = .ok (.if_icmp .eq 9, 3) := by decide +kernel
theorem dX11_mend_88 : decode cX11_mend 88 = .ok (.iinc 4 1, 3) := by decide +kernel
theorem dX11_mend_91 : decode cX11_mend 91 = .ok (.goto (-15), 3) := by decide +kernel
theorem dX11_mend_94 : decode cX11_mend 94 = .ok (.aload_n 0, 1) := by decide +kernel
theorem dX11_mend_95 : decode cX11_mend 95 = .ok (.getfield 130, 3) := by decide +kernel
theorem dX11_mend_98 : decode cX11_mend 98 = .ok (.iconst 0, 1) := by decide +kernel
theorem dX11_mend_99 : decode cX11_mend 99 = .ok (.iload_n 3, 1) := by decide +kernel
theorem dX11_mend_100 : decode cX11_mend 100 = .ok (.iastore, 1) := by decide +kernel
theorem dX11_mend_101 : decode cX11_mend 101 = .ok (.aload_n 0, 1) := by decide +kernel
theorem dX11_mend_102 : decode cX11_mend 102 = .ok (.getfield 130, 3) := by decide +kernel
theorem dX11_mend_105 : decode cX11_mend 105 = .ok (.iconst 1, 1) := by decide +kernel
theorem dX11_mend_106 : decode cX11_mend 106 = .ok (.iload 4, 2) := by decide +kernel
theorem dX11_mend_108 : decode cX11_mend 108 = .ok (.iastore, 1) := by decide +kernel
theorem dX11_mend_109 : decode cX11_mend 109 = .ok (.aload_n 0, 1) := by decide +kernel
theorem dX11_mend_110 : decode cX11_mend 110 = .ok (.getfield 130, 3) := by decide +kernel
theorem dX11_mend_113 : decode cX11_mend 113 = .ok (.iconst 2, 1) := by decide +kernel
theorem dX11_mend_114 : decode cX11_mend 114 = .ok (.iconst 0, 1) := by decide +kernel
theorem dX11_mend_115 : decode cX11_mend 115 = .ok (.iastore, 1) := by decide +kernel
theorem dX11_mend_116 : decode cX11_mend 116 = .ok (.iconst 0, 1) := by decide +kernel
theorem dX11_mend_117 : decode cX11_mend 117 = .ok (.istore 5, 2) := by decide +kernel
theorem dX11_mend_119 : decode cX11_mend 119 = .ok (.iload 5, 2) := by decide +kernel
theorem dX11_mend_121 : decode cX11_mend 121 = .ok (.aload_n 0, 1) := by decide +kernel
theorem dX11_mend_122 : decode cX11_mend 122 = .ok (.iload_n 1, 1) := by decide +kernel
theorem dX11_mend_123 : decode cX11_mend 123 = .ok (.invokevirtual 216, 3) := by decide +kernel
theorem dX11_mend_126 : decode cX11_mend 126 = .ok (.if_icmp .ge 36, 3) := by decide +kernel
theorem dX11_mend_129 : decode cX11_mend 129 = .ok (.aload_n 0, 1) := by decide +kernel
theorem dX11_mend_130 : decode cX11_mend 130 = .ok (.iload_n 3, 1) := by decide +kernel
theorem dX11_mend_131 : decode cX11_mend 131 = .ok (.iload 4, 2) := by decide +kernel
theorem dX11_mend_133 : decode cX11_mend 133 = .ok (.iload 5, 2) := by decide +kernel
theorem dX11_mend_135 : decode cX11_mend 135 = .ok (.iadd, 1) := by decide +kernel
theorem dX11_mend_136 : decode cX11_mend 136 = .ok (.invokevirtual 219, 3) := by decide +kernel
theorem dX11_mend_139 : decode cX11_mend 139 = .ok (.iconst (-1), 1) := by decide +kernel
theorem dX11_mend_140 : decode cX11_mend 140 = .ok (.if_icmp .ne 16, 3) := by decide +kernel
theorem dX11_mend_143 : decode cX11_mend 143 = .ok (.aload_n 0, 1) := by decide +kernel
theorem dX11_mend_144 : decode cX11_mend 144 = .ok (.getfield 130, 3) := by decide +kernel
theorem dX11_mend_147 : decode cX11_mend 147 = .ok (.iconst 2, 1) := by decide +kernel
theorem dX11_mend_148 : decode cX11_mend 148 = .ok (.dup2, 1) := by decide +kernel
theorem dX11_mend_149 : decode cX11_mend 149 = .ok (.iaload, 1) := by decide +kernel
theorem dX11_mend_150 : decode cX11_mend 150 = .ok (.iconst 1, 1) := by decide +kernel
theorem dX11_mend_151 : decode cX11_mend 151 = .ok (.iload 5, 2) := by decide +kernel
theorem dX11_mend_153 : decode cX11_mend 153 = .ok (.ishl, 1) := by decide +kernel
theorem dX11_mend_154 : decode cX11_mend 154 = .ok (.ior, 1) := by decide +kernel
theorem dX11_mend_155 : decode cX11_mend 155 = .ok (.iastore, 1) := by decide +kernel
theorem dX11_mend_156 : decode cX11_mend 156 = .ok (.iinc 5 1, 3) := by decide +kernel
theorem dX11_mend_159 : decode cX11_mend 159 = .ok (.goto (-40), 3) := by decide +kernel
theorem dX11_mend_162 : decode cX11_mend 162 = .ok (.aload_n 0, 1) := by decide +kernel
theorem dX11_mend_163 : decode cX11_mend 163 = .ok (.iconst 1, 1) := by decide +kernel
theorem dX11_mend_164 : decode cX11_mend 164 = .ok (.putfield 324, 3) := by decide +kernel
theorem dX11_mend_167 : decode cX11_mend 167 = .ok (.iload_n 2, 1) := by decide +kernel
theorem dX11_mend_168 : decode cX11_mend 168 = .ok (.ireturn, 1) := by decide +kernel
def fX11_mend_L20 (N : Nat) (v0 : Nat) (v1 : Int32) : Nat → Int32 → Int32 → Mem → Option (Int32 × Mem)
  | 0, _, _, _ => none
  | n + 1, v2, v3, M => ((fR M 11 v0 14).bind fun x22 => ((aI M x22 0).bind fun x26 => (if x26 ≤ v3 then some (v2, M) else (if mK M v0 = 12 then ((fX11_leastLacks N v0 v1 v3 M).bind fun (x34, M34) => ((fX11_least N v2 x34 M34).bind fun (x37, M37) => fX11_mend_L20 N v0 v1 n x37 (v3 + 1) M37)) else none))))
def fX11_mend_L57 (N : Nat) (v0 : Nat) (v1 : Int32) (v2 : Int32) : Nat → Int32 → Mem → Option (Int32 × Mem)
  | 0, _, _ => none
  | n + 1, v3, M => (if mK M v0 = 12 then ((fX11_leastLacks N v0 v1 v3 M).bind fun (x60, M60) => (if x60 = v2 then some (v3, M60) else fX11_mend_L57 N v0 v1 v2 n (v3 + 1) M60)) else none)
def fX11_mend_L76 (N : Nat) (v0 : Nat) (v1 : Int32) (v2 : Int32) (v3 : Int32) : Nat → Int32 → Mem → Option (Int32 × Mem)
  | 0, _, _ => none
  | n + 1, v4, M => (if mK M v0 = 12 then ((fX11_lacks N v0 v1 v3 v4 M).bind fun (x81, M81) => (if x81 = v2 then some (v4, M81) else fX11_mend_L76 N v0 v1 v2 v3 n (v4 + 1) M81)) else none)
def fX11_mend_L119 (N : Nat) (v0 : Nat) (v1 : Int32) (v2 : Int32) (v3 : Int32) (v4 : Int32) : Nat → Int32 → Mem → Option (Mem)
  | 0, _, _ => none
  | n + 1, v5, M => (if mK M v0 = 12 then ((fX11_longOf N v0 v1 M).bind fun (x123, M123) => (if x123 ≤ v5 then some M123 else (if mK M123 v0 = 12 then ((fX11_signAt N v0 v3 (v4 + v5) M123).bind fun (x136, M136) => (if x136 = ((-1)) then ((fR M136 11 v0 26).bind fun x144 => ((aI M136 x144 2).bind fun x149 => ((tI M136 x144 2 (x149 ||| (1 <<< (v5 &&& 31)))).bind fun M155 => fX11_mend_L119 N v0 v1 v2 v3 v4 n (v5 + 1) M155))) else fX11_mend_L119 N v0 v1 v2 v3 v4 n (v5 + 1) M136)) else none))) else none)
def fX11_mend (N : Nat) (v0 : Nat) (v1 : Int32) (M : Mem) : Option (Int32 × Mem) := ((pI M 11 v0 0 0).bind fun M2 => (if mK M2 v0 = 12 then ((fX11_isLaw N v0 v1 M2).bind fun (x7, M7) => (if x7 = 0 then some ((-1), M7) else ((fX11_mend_L20 N v0 v1 N ((100000)) 0 M7).bind fun o20 => match o20 with | (w2_20, M20) => (if w2_20 < ((100000)) then ((fX11_mend_L57 N v0 v1 w2_20 N 0 M20).bind fun o57 => match o57 with | (w3_57, M57) => ((fX11_mend_L76 N v0 v1 w2_20 w3_57 N 0 M57).bind fun o76 => match o76 with | (w4_76, M76) => ((fR M76 11 v0 26).bind fun x95 => ((tI M76 x95 0 w3_57).bind fun M100 => ((fR M100 11 v0 26).bind fun x102 => ((tI M100 x102 1 w4_76).bind fun M108 => ((fR M108 11 v0 26).bind fun x110 => ((tI M108 x110 2 0).bind fun M115 => ((fX11_mend_L119 N v0 v1 w2_20 w3_57 w4_76 N 0 M115).bind fun o119 => ((pZ o119 11 v0 27 1).bind fun M164 => some (w2_20, M164))))))))))) else some ((-1), M20))))) else none))
set_option maxHeartbeats 4000000 in
set_option maxRecDepth 100000 in
theorem k_X11_mend (l : Launch) (b : Nat) (D : va_G) (cy : Nat → ClassId) (N : Nat) (v0 : Nat) (v1 : Int32) (M : Mem) (r : Int32) (Mf : Mem) (h : fX11_mend N v0 v1 M = some (r, Mf)) : Ct l yX11_mend cX11_mend 6 (some .int) 5 0 0 b D cy [.ref (b + v0), .int v1] M (some (.int r)) Mf := by
  refine Ct_of (own := RX11) (by decide) rfl (Nat.le_of_ble_eq_true rfl) ?_
  intro p e s m args below meth c F hr hl hmn
  unfold fX11_mend at h
  show X p l e ({ frames := 5, cells := 0, slots := 0, locals := 100 * 5 }) s m args below meth c (MQ below (Qm b D cy (some (.int r)) Mf) args s 0 0 (fun q => b ≤ q)) 6 b D cy 0 0 M 0 [(0, .ref (b + v0)), (1, .int v1)] []
  refine x_aload_n F dX11_mend_0 rfl 0 rfl ?_
  refine x_iconst F (v := 0) dX11_mend_1 (by decide) ?_
  obtain ⟨M2, c2, h⟩ := bdS h
  refine x_putI F (ci := 11) (C := RX11) (T := TX11) (N := 45) rfl ⟨by decide, rfl⟩ inU11 tyX11_ok nmX11 0 (by decide) rfl rfl wl_845 c2 dX11_mend_2 ?_
  refine x_aload_n F dX11_mend_5 rfl 0 rfl ?_
  refine x_iload_n F dX11_mend_6 rfl 1 rfl ?_
  obtain ⟨k7, h⟩ := gdS h
  obtain ⟨⟨x7, M7⟩, c7, h⟩ := bdS h
  dsimp only at h
  refine x_callV F (As := [.int v1]) (rest := []) (res := (some (.int x7))) (ci := 11) (q := (RX11, TX11, 45)) rfl (by decide) k7 (k_X11_isLaw l b D cy N v0 v1 M2 _ _ c7) wl_1054 wl_1055 wl_1056 wl_854 wl_1000 hd_X11_isLaw ⟨Nat.le_of_ble_eq_true rfl, Nat.le_of_ble_eq_true rfl⟩ ⟨Nat.le_refl _, Nat.le_refl _⟩ (Nat.le_of_ble_eq_true rfl) rfl dX11_mend_7 ?_
  refine x_if_ne F (tgt := 15) dX11_mend_10 (by decide) (fun c10 => ?_) (fun c10 => ?_)
  · rw [if_neg c10] at h
    refine x_ldc F (v := (100000)) dX11_mend_15 wl_1010 ?_
    refine x_istore_n F (lv' := [(2, .int ((100000))), (0, .ref (b + v0)), (1, .int v1)]) dX11_mend_17 rfl (by decide) rfl ?_
    refine x_iconst F (v := 0) dX11_mend_18 (by decide) ?_
    refine x_istore_n F (lv' := [(3, .int 0), (2, .int ((100000))), (0, .ref (b + v0)), (1, .int v1)]) dX11_mend_19 rfl (by decide) rfl ?_
    have L20 : ∀ (v0 : Nat) (v1 : Int32) (n : Nat) (v2 : Int32) (v3 : Int32) (M : Mem) (o : Int32 × Mem), fX11_mend_L20 N v0 v1 n v2 v3 M = some o → (∀ (w2 : Int32) (M' : Mem), o = (w2, M') → X p l e ({ frames := 5, cells := 0, slots := 0, locals := 100 * 5 }) s m args below meth c (MQ below (Qm b D cy (some (.int r)) Mf) args s 0 0 (fun q => b ≤ q)) 6 b D cy 0 0 M' 47 [(0, .ref (b + v0)), (1, .int v1), (2, .int w2)] []) → X p l e ({ frames := 5, cells := 0, slots := 0, locals := 100 * 5 }) s m args below meth c (MQ below (Qm b D cy (some (.int r)) Mf) args s 0 0 (fun q => b ≤ q)) 6 b D cy 0 0 M 20 [(0, .ref (b + v0)), (1, .int v1), (2, .int v2), (3, .int v3)] [] := by
      intro v0 v1 n
      induction n with
      | zero => intro v2 v3 M o h; exact absurd h (by rw [fX11_mend_L20]; exact fun z => by cases z)
      | succ n ih =>
        intro v2 v3 M o h hE
        rw [fX11_mend_L20] at h
        refine x_iload_n F dX11_mend_20 rfl 3 rfl ?_
        refine x_aload_n F dX11_mend_21 rfl 0 rfl ?_
        obtain ⟨x22, c22, h⟩ := bdS h
        refine x_getR F (ci := 11) (C := RX11) (T := TX11) (N := 45) rfl ⟨by decide, rfl⟩ inU11 14 (by decide) (fun _ _ _ => rfl) wl_913 c22 dX11_mend_22 ?_
        refine x_iconst F (v := 0) dX11_mend_25 (by decide) ?_
        obtain ⟨x26, c26, h⟩ := bdS h
        refine x_aI F c26 dX11_mend_26 ?_
        refine x_icmp_ge F (tgt := 47) dX11_mend_27 (by decide) (fun c27 => ?_) (fun c27 => ?_)
        · rw [if_pos c27] at h
          obtain rfl := Option.some.inj h
          refine x_sub [0, 1, 2] rfl ?_
          exact hE _ _ rfl
        · rw [if_neg c27] at h
          refine x_iload_n F dX11_mend_30 rfl 2 rfl ?_
          refine x_aload_n F dX11_mend_31 rfl 0 rfl ?_
          refine x_iload_n F dX11_mend_32 rfl 1 rfl ?_
          refine x_iload_n F dX11_mend_33 rfl 3 rfl ?_
          obtain ⟨k34, h⟩ := gdS h
          obtain ⟨⟨x34, M34⟩, c34, h⟩ := bdS h
          dsimp only at h
          refine x_callV F (As := [.int v1, .int v3]) (rest := [.int v2]) (res := (some (.int x34))) (ci := 11) (q := (RX11, TX11, 45)) rfl (by decide) k34 (k_X11_leastLacks l b D cy N v0 v1 v3 M _ _ c34) wl_1025 wl_1026 wl_1027 wl_854 wl_1024 hd_X11_leastLacks ⟨Nat.le_of_ble_eq_true rfl, Nat.le_of_ble_eq_true rfl⟩ ⟨Nat.le_refl _, Nat.le_refl _⟩ (Nat.le_of_ble_eq_true rfl) rfl dX11_mend_34 ?_
          obtain ⟨⟨x37, M37⟩, c37, h⟩ := bdS h
          dsimp only at h
          refine x_callS F (As := [.int v2, .int x34]) (rest := []) (res := (some (.int x37))) (k_X11_least l b D cy N v2 x34 M34 _ _ c37) wl_1022 wl_1023 wl_854 wl_860 (hd_X11_least).2 ⟨Nat.le_of_ble_eq_true rfl, Nat.le_of_ble_eq_true rfl⟩ ⟨Nat.le_refl _, Nat.le_refl _⟩ (Nat.le_of_ble_eq_true rfl) rfl dX11_mend_37 ?_
          refine x_istore_n F (lv' := [(2, .int x37), (0, .ref (b + v0)), (1, .int v1), (3, .int v3)]) dX11_mend_40 rfl (by decide) rfl ?_
          refine x_iinc F (v := v3 + 1) (lv' := [(3, .int (v3 + 1)), (2, .int x37), (0, .ref (b + v0)), (1, .int v1)]) dX11_mend_41 3 rfl rfl (by decide) rfl ?_
          refine x_goto F (tgt := 20) dX11_mend_44 (by decide) ?_
          refine x_sub [2, 3, 1, 0] rfl ?_
          exact ih x37 (v3 + 1) M37 o h hE
    obtain ⟨o20, h20, h⟩ := bdS h
    refine x_sub [2, 3, 1, 0] rfl ?_
    refine L20 v0 v1 N ((100000)) 0 M7 o20 h20 (fun w2_20 M20 e => ?_)
    · subst e
      dsimp only at h
      refine x_iload_n F dX11_mend_47 rfl 2 rfl ?_
      refine x_ldc F (v := (100000)) dX11_mend_48 wl_1010 ?_
      refine x_icmp_lt F (tgt := 55) dX11_mend_50 (by decide) (fun c50 => ?_) (fun c50 => ?_)
      · rw [if_pos c50] at h
        refine x_iconst F (v := 0) dX11_mend_55 (by decide) ?_
        refine x_istore_n F (lv' := [(3, .int 0), (0, .ref (b + v0)), (1, .int v1), (2, .int w2_20)]) dX11_mend_56 rfl (by decide) rfl ?_
        have L57 : ∀ (v0 : Nat) (v1 : Int32) (v2 : Int32) (n : Nat) (v3 : Int32) (M : Mem) (o : Int32 × Mem), fX11_mend_L57 N v0 v1 v2 n v3 M = some o → (∀ (w3 : Int32) (M' : Mem), o = (w3, M') → X p l e ({ frames := 5, cells := 0, slots := 0, locals := 100 * 5 }) s m args below meth c (MQ below (Qm b D cy (some (.int r)) Mf) args s 0 0 (fun q => b ≤ q)) 6 b D cy 0 0 M' 73 [(0, .ref (b + v0)), (1, .int v1), (2, .int v2), (3, .int w3)] []) → X p l e ({ frames := 5, cells := 0, slots := 0, locals := 100 * 5 }) s m args below meth c (MQ below (Qm b D cy (some (.int r)) Mf) args s 0 0 (fun q => b ≤ q)) 6 b D cy 0 0 M 57 [(0, .ref (b + v0)), (1, .int v1), (2, .int v2), (3, .int v3)] [] := by
          intro v0 v1 v2 n
          induction n with
          | zero => intro v3 M o h; exact absurd h (by rw [fX11_mend_L57]; exact fun z => by cases z)
          | succ n ih =>
            intro v3 M o h hE
            rw [fX11_mend_L57] at h
            refine x_aload_n F dX11_mend_57 rfl 0 rfl ?_
            refine x_iload_n F dX11_mend_58 rfl 1 rfl ?_
            refine x_iload_n F dX11_mend_59 rfl 3 rfl ?_
            obtain ⟨k60, h⟩ := gdS h
            obtain ⟨⟨x60, M60⟩, c60, h⟩ := bdS h
            dsimp only at h
            refine x_callV F (As := [.int v1, .int v3]) (rest := []) (res := (some (.int x60))) (ci := 11) (q := (RX11, TX11, 45)) rfl (by decide) k60 (k_X11_leastLacks l b D cy N v0 v1 v3 M _ _ c60) wl_1025 wl_1026 wl_1027 wl_854 wl_1024 hd_X11_leastLacks ⟨Nat.le_of_ble_eq_true rfl, Nat.le_of_ble_eq_true rfl⟩ ⟨Nat.le_refl _, Nat.le_refl _⟩ (Nat.le_of_ble_eq_true rfl) rfl dX11_mend_60 ?_
            refine x_iload_n F dX11_mend_63 rfl 2 rfl ?_
            refine x_icmp_eq F (tgt := 73) dX11_mend_64 (by decide) (fun c64 => ?_) (fun c64 => ?_)
            · rw [if_pos c64] at h
              obtain rfl := Option.some.inj h
              exact hE _ _ rfl
            · rw [if_neg c64] at h
              refine x_iinc F (v := v3 + 1) (lv' := [(3, .int (v3 + 1)), (0, .ref (b + v0)), (1, .int v1), (2, .int v2)]) dX11_mend_67 3 rfl rfl (by decide) rfl ?_
              refine x_goto F (tgt := 57) dX11_mend_70 (by decide) ?_
              refine x_sub [1, 2, 3, 0] rfl ?_
              exact ih (v3 + 1) M60 o h hE
        obtain ⟨o57, h57, h⟩ := bdS h
        refine x_sub [1, 2, 3, 0] rfl ?_
        refine L57 v0 v1 w2_20 N 0 M20 o57 h57 (fun w3_57 M57 e => ?_)
        · subst e
          dsimp only at h
          refine x_iconst F (v := 0) dX11_mend_73 (by decide) ?_
          refine x_istore F (lv' := [(4, .int 0), (0, .ref (b + v0)), (1, .int v1), (2, .int w2_20), (3, .int w3_57)]) dX11_mend_74 (by decide) rfl ?_
          have L76 : ∀ (v0 : Nat) (v1 : Int32) (v2 : Int32) (v3 : Int32) (n : Nat) (v4 : Int32) (M : Mem) (o : Int32 × Mem), fX11_mend_L76 N v0 v1 v2 v3 n v4 M = some o → (∀ (w4 : Int32) (M' : Mem), o = (w4, M') → X p l e ({ frames := 5, cells := 0, slots := 0, locals := 100 * 5 }) s m args below meth c (MQ below (Qm b D cy (some (.int r)) Mf) args s 0 0 (fun q => b ≤ q)) 6 b D cy 0 0 M' 94 [(0, .ref (b + v0)), (1, .int v1), (2, .int v2), (3, .int v3), (4, .int w4)] []) → X p l e ({ frames := 5, cells := 0, slots := 0, locals := 100 * 5 }) s m args below meth c (MQ below (Qm b D cy (some (.int r)) Mf) args s 0 0 (fun q => b ≤ q)) 6 b D cy 0 0 M 76 [(0, .ref (b + v0)), (1, .int v1), (2, .int v2), (3, .int v3), (4, .int v4)] [] := by
            intro v0 v1 v2 v3 n
            induction n with
            | zero => intro v4 M o h; exact absurd h (by rw [fX11_mend_L76]; exact fun z => by cases z)
            | succ n ih =>
              intro v4 M o h hE
              rw [fX11_mend_L76] at h
              refine x_aload_n F dX11_mend_76 rfl 0 rfl ?_
              refine x_iload_n F dX11_mend_77 rfl 1 rfl ?_
              refine x_iload_n F dX11_mend_78 rfl 3 rfl ?_
              refine x_iload F dX11_mend_79 4 rfl ?_
              obtain ⟨k81, h⟩ := gdS h
              obtain ⟨⟨x81, M81⟩, c81, h⟩ := bdS h
              dsimp only at h
              refine x_callV F (As := [.int v1, .int v3, .int v4]) (rest := []) (res := (some (.int x81))) (ci := 11) (q := (RX11, TX11, 45)) rfl (by decide) k81 (k_X11_lacks l b D cy N v0 v1 v3 v4 M _ _ c81) wl_1019 wl_1020 wl_1021 wl_854 wl_1009 hd_X11_lacks ⟨Nat.le_of_ble_eq_true rfl, Nat.le_of_ble_eq_true rfl⟩ ⟨Nat.le_refl _, Nat.le_refl _⟩ (Nat.le_of_ble_eq_true rfl) rfl dX11_mend_81 ?_
              refine x_iload_n F dX11_mend_84 rfl 2 rfl ?_
              refine x_icmp_eq F (tgt := 94) dX11_mend_85 (by decide) (fun c85 => ?_) (fun c85 => ?_)
              · rw [if_pos c85] at h
                obtain rfl := Option.some.inj h
                exact hE _ _ rfl
              · rw [if_neg c85] at h
                refine x_iinc F (v := v4 + 1) (lv' := [(4, .int (v4 + 1)), (0, .ref (b + v0)), (1, .int v1), (2, .int v2), (3, .int v3)]) dX11_mend_88 4 rfl rfl (by decide) rfl ?_
                refine x_goto F (tgt := 76) dX11_mend_91 (by decide) ?_
                refine x_sub [1, 2, 3, 4, 0] rfl ?_
                exact ih (v4 + 1) M81 o h hE
          obtain ⟨o76, h76, h⟩ := bdS h
          refine x_sub [1, 2, 3, 4, 0] rfl ?_
          refine L76 v0 v1 w2_20 w3_57 N 0 M57 o76 h76 (fun w4_76 M76 e => ?_)
          · subst e
            dsimp only at h
            refine x_aload_n F dX11_mend_94 rfl 0 rfl ?_
            obtain ⟨x95, c95, h⟩ := bdS h
            refine x_getR F (ci := 11) (C := RX11) (T := TX11) (N := 45) rfl ⟨by decide, rfl⟩ inU11 26 (by decide) (fun _ _ _ => rfl) wl_924 c95 dX11_mend_95 ?_
            refine x_iconst F (v := 0) dX11_mend_98 (by decide) ?_
            refine x_iload_n F dX11_mend_99 rfl 3 rfl ?_
            obtain ⟨M100, c100, h⟩ := bdS h
            refine x_tI F c100 dX11_mend_100 ?_
            refine x_aload_n F dX11_mend_101 rfl 0 rfl ?_
            obtain ⟨x102, c102, h⟩ := bdS h
            refine x_getR F (ci := 11) (C := RX11) (T := TX11) (N := 45) rfl ⟨by decide, rfl⟩ inU11 26 (by decide) (fun _ _ _ => rfl) wl_924 c102 dX11_mend_102 ?_
            refine x_iconst F (v := 1) dX11_mend_105 (by decide) ?_
            refine x_iload F dX11_mend_106 4 rfl ?_
            obtain ⟨M108, c108, h⟩ := bdS h
            refine x_tI F c108 dX11_mend_108 ?_
            refine x_aload_n F dX11_mend_109 rfl 0 rfl ?_
            obtain ⟨x110, c110, h⟩ := bdS h
            refine x_getR F (ci := 11) (C := RX11) (T := TX11) (N := 45) rfl ⟨by decide, rfl⟩ inU11 26 (by decide) (fun _ _ _ => rfl) wl_924 c110 dX11_mend_110 ?_
            refine x_iconst F (v := 2) dX11_mend_113 (by decide) ?_
            refine x_iconst F (v := 0) dX11_mend_114 (by decide) ?_
            obtain ⟨M115, c115, h⟩ := bdS h
            refine x_tI F c115 dX11_mend_115 ?_
            refine x_iconst F (v := 0) dX11_mend_116 (by decide) ?_
            refine x_istore F (lv' := [(5, .int 0), (0, .ref (b + v0)), (1, .int v1), (2, .int w2_20), (3, .int w3_57), (4, .int w4_76)]) dX11_mend_117 (by decide) rfl ?_
            have L119 : ∀ (v0 : Nat) (v1 : Int32) (v2 : Int32) (v3 : Int32) (v4 : Int32) (n : Nat) (v5 : Int32) (M : Mem) (o : Mem), fX11_mend_L119 N v0 v1 v2 v3 v4 n v5 M = some o → X p l e ({ frames := 5, cells := 0, slots := 0, locals := 100 * 5 }) s m args below meth c (MQ below (Qm b D cy (some (.int r)) Mf) args s 0 0 (fun q => b ≤ q)) 6 b D cy 0 0 o 162 [(0, .ref (b + v0)), (2, .int v2)] [] → X p l e ({ frames := 5, cells := 0, slots := 0, locals := 100 * 5 }) s m args below meth c (MQ below (Qm b D cy (some (.int r)) Mf) args s 0 0 (fun q => b ≤ q)) 6 b D cy 0 0 M 119 [(0, .ref (b + v0)), (1, .int v1), (2, .int v2), (3, .int v3), (4, .int v4), (5, .int v5)] [] := by
              intro v0 v1 v2 v3 v4 n
              induction n with
              | zero => intro v5 M o h; exact absurd h (by rw [fX11_mend_L119]; exact fun z => by cases z)
              | succ n ih =>
                intro v5 M o h hE
                rw [fX11_mend_L119] at h
                refine x_iload F dX11_mend_119 5 rfl ?_
                refine x_aload_n F dX11_mend_121 rfl 0 rfl ?_
                refine x_iload_n F dX11_mend_122 rfl 1 rfl ?_
                obtain ⟨k123, h⟩ := gdS h
                obtain ⟨⟨x123, M123⟩, c123, h⟩ := bdS h
                dsimp only at h
                refine x_callV F (As := [.int v1]) (rest := [.int v5]) (res := (some (.int x123))) (ci := 11) (q := (RX11, TX11, 45)) rfl (by decide) k123 (k_X11_longOf l b D cy N v0 v1 M _ _ c123) wl_1005 wl_1006 wl_1007 wl_854 wl_1003 hd_X11_longOf ⟨Nat.le_of_ble_eq_true rfl, Nat.le_of_ble_eq_true rfl⟩ ⟨Nat.le_refl _, Nat.le_refl _⟩ (Nat.le_of_ble_eq_true rfl) rfl dX11_mend_123 ?_
                refine x_icmp_ge F (tgt := 162) dX11_mend_126 (by decide) (fun c126 => ?_) (fun c126 => ?_)
                · rw [if_pos c126] at h
                  obtain rfl := Option.some.inj h
                  refine x_sub [0, 2] rfl ?_
                  exact hE
                · rw [if_neg c126] at h
                  refine x_aload_n F dX11_mend_129 rfl 0 rfl ?_
                  refine x_iload_n F dX11_mend_130 rfl 3 rfl ?_
                  refine x_iload F dX11_mend_131 4 rfl ?_
                  refine x_iload F dX11_mend_133 5 rfl ?_
                  refine x_iadd F dX11_mend_135 ?_
                  obtain ⟨k136, h⟩ := gdS h
                  obtain ⟨⟨x136, M136⟩, c136, h⟩ := bdS h
                  dsimp only at h
                  refine x_callV F (As := [.int v3, .int (v4 + v5)]) (rest := []) (res := (some (.int x136))) (ci := 11) (q := (RX11, TX11, 45)) rfl (by decide) k136 (k_X11_signAt l b D cy N v0 v3 (v4 + v5) M123 _ _ c136) wl_1011 wl_1012 wl_1013 wl_854 wl_1002 hd_X11_signAt ⟨Nat.le_of_ble_eq_true rfl, Nat.le_of_ble_eq_true rfl⟩ ⟨Nat.le_refl _, Nat.le_refl _⟩ (Nat.le_of_ble_eq_true rfl) rfl dX11_mend_136 ?_
                  refine x_iconst F (v := (-1)) dX11_mend_139 (by decide) ?_
                  refine x_icmp_ne F (tgt := 156) dX11_mend_140 (by decide) (fun c140 => ?_) (fun c140 => ?_)
                  · rw [if_neg c140] at h
                    refine x_iinc F (v := v5 + 1) (lv' := [(5, .int (v5 + 1)), (0, .ref (b + v0)), (1, .int v1), (2, .int v2), (3, .int v3), (4, .int v4)]) dX11_mend_156 5 rfl rfl (by decide) rfl ?_
                    refine x_goto F (tgt := 119) dX11_mend_159 (by decide) ?_
                    refine x_sub [1, 2, 3, 4, 5, 0] rfl ?_
                    exact ih (v5 + 1) M136 o h hE
                  · rw [if_pos c140] at h
                    refine x_aload_n F dX11_mend_143 rfl 0 rfl ?_
                    obtain ⟨x144, c144, h⟩ := bdS h
                    refine x_getR F (ci := 11) (C := RX11) (T := TX11) (N := 45) rfl ⟨by decide, rfl⟩ inU11 26 (by decide) (fun _ _ _ => rfl) wl_924 c144 dX11_mend_144 ?_
                    refine x_iconst F (v := 2) dX11_mend_147 (by decide) ?_
                    refine x_dup2 F dX11_mend_148 rfl rfl ?_
                    obtain ⟨x149, c149, h⟩ := bdS h
                    refine x_aI F c149 dX11_mend_149 ?_
                    refine x_iconst F (v := 1) dX11_mend_150 (by decide) ?_
                    refine x_iload F dX11_mend_151 5 rfl ?_
                    refine x_ishl F dX11_mend_153 ?_
                    refine x_ior F dX11_mend_154 ?_
                    obtain ⟨M155, c155, h⟩ := bdS h
                    refine x_tI F c155 dX11_mend_155 ?_
                    refine x_iinc F (v := v5 + 1) (lv' := [(5, .int (v5 + 1)), (0, .ref (b + v0)), (1, .int v1), (2, .int v2), (3, .int v3), (4, .int v4)]) dX11_mend_156 5 rfl rfl (by decide) rfl ?_
                    refine x_goto F (tgt := 119) dX11_mend_159 (by decide) ?_
                    refine x_sub [1, 2, 3, 4, 5, 0] rfl ?_
                    exact ih (v5 + 1) M155 o h hE
            obtain ⟨o119, h119, h⟩ := bdS h
            refine x_sub [1, 2, 3, 4, 5, 0] rfl ?_
            refine L119 v0 v1 w2_20 w3_57 w4_76 N 0 M115 o119 h119 ?_
            refine x_aload_n F dX11_mend_162 rfl 0 rfl ?_
            refine x_iconst F (v := 1) dX11_mend_163 (by decide) ?_
            obtain ⟨M164, c164, h⟩ := bdS h
            refine x_putZ F (ci := 11) (C := RX11) (T := TX11) (N := 45) rfl ⟨by decide, rfl⟩ inU11 tyX11_ok nmX11 27 (by decide) rfl rfl wl_1141 c164 dX11_mend_164 ?_
            refine x_iload_n F dX11_mend_167 rfl 1 rfl ?_
            obtain ⟨rfl, rfl⟩ := retS h
            exact x_iret F hr hl dX11_mend_168
      · rw [if_neg c50] at h
        refine x_iconst F (v := (-1)) dX11_mend_53 (by decide) ?_
        obtain ⟨rfl, rfl⟩ := retS h
        exact x_iret F hr hl dX11_mend_54
  · rw [if_pos c10] at h
    refine x_iconst F (v := (-1)) dX11_mend_13 (by decide) ?_
    obtain ⟨rfl, rfl⟩ := retS h
    exact x_iret F hr hl dX11_mend_14
theorem dX11_mendAt_0 : decode cX11_mendAt 0 = .ok (.aload_n 0, 1) := by decide +kernel
theorem dX11_mendAt_1 : decode cX11_mendAt 1 = .ok (.iconst 0, 1) := by decide +kernel
theorem dX11_mendAt_2 : decode cX11_mendAt 2 = .ok (.putfield 1, 3) := by decide +kernel
theorem dX11_mendAt_5 : decode cX11_mendAt 5 = .ok (.aload_n 0, 1) := by decide +kernel
theorem dX11_mendAt_6 : decode cX11_mendAt 6 = .ok (.getfield 324, 3) := by decide +kernel
theorem dX11_mendAt_9 : decode cX11_mendAt 9 = .ok (.ifCond .eq 21, 3) := by decide +kernel
theorem dX11_mendAt_12 : decode cX11_mendAt 12 = .ok (.iload_n 1, 1) := by decide +kernel
theorem dX11_mendAt_13 : decode cX11_mendAt 13 = .ok (.iconst 0, 1) := by decide +kernel
theorem dX11_mendAt_14 : decode cX11_mendAt 14 = .ok (.iconst 2, 1) := by decide +kernel
theorem dX11_mendAt_15 : decode cX11_mendAt 15 = .ok (.invokestatic 75, 3) := by decide +kernel
theorem dX11_mendAt_18 : decode cX11_mendAt 18 = .ok (.ifCond .eq 12, 3) := by decide +kernel
theorem dX11_mendAt_21 : decode cX11_mendAt 21 = .ok (.aload_n 0, 1) := by decide +kernel
theorem dX11_mendAt_22 : decode cX11_mendAt 22 = .ok (.getfield 130, 3) := by decide +kernel
theorem dX11_mendAt_25 : decode cX11_mendAt 25 = .ok (.iload_n 1, 1) := by decide +kernel
theorem dX11_mendAt_26 : decode cX11_mendAt 26 = .ok (.iaload, 1) := by decide +kernel
theorem dX11_mendAt_27 : decode cX11_mendAt 27 = .ok (.goto 4, 3) := by decide +kernel
theorem dX11_mendAt_30 : decode cX11_mendAt 30 = .ok (.iconst (-1), 1) := by decide +kernel
theorem dX11_mendAt_31 : decode cX11_mendAt 31 = .ok (.ireturn, 1) := by decide +kernel
def fX11_mendAt (N : Nat) (v0 : Nat) (v1 : Int32) (M : Mem) : Option (Int32 × Mem) := ((pI M 11 v0 0 0).bind fun M2 => ((fI M2 11 v0 27).bind fun x6 => (if x6 = 0 then some ((-1), M2) else ((fX11_isIn N v1 0 2 M2).bind fun (x15, M15) => (if x15 = 0 then some ((-1), M15) else ((fR M15 11 v0 26).bind fun x22 => ((aI M15 x22 v1).bind fun x26 => some (x26, M15))))))))
set_option maxHeartbeats 4000000 in
set_option maxRecDepth 100000 in
theorem k_X11_mendAt (l : Launch) (b : Nat) (D : va_G) (cy : Nat → ClassId) (N : Nat) (v0 : Nat) (v1 : Int32) (M : Mem) (r : Int32) (Mf : Mem) (h : fX11_mendAt N v0 v1 M = some (r, Mf)) : Ct l yX11_mendAt cX11_mendAt 2 (some .int) 2 0 0 b D cy [.ref (b + v0), .int v1] M (some (.int r)) Mf := by
  refine Ct_of (own := RX11) (by decide) rfl (Nat.le_of_ble_eq_true rfl) ?_
  intro p e s m args below meth c F hr hl hmn
  unfold fX11_mendAt at h
  show X p l e ({ frames := 2, cells := 0, slots := 0, locals := 100 * 2 }) s m args below meth c (MQ below (Qm b D cy (some (.int r)) Mf) args s 0 0 (fun q => b ≤ q)) 2 b D cy 0 0 M 0 [(0, .ref (b + v0)), (1, .int v1)] []
  refine x_aload_n F dX11_mendAt_0 rfl 0 rfl ?_
  refine x_iconst F (v := 0) dX11_mendAt_1 (by decide) ?_
  obtain ⟨M2, c2, h⟩ := bdS h
  refine x_putI F (ci := 11) (C := RX11) (T := TX11) (N := 45) rfl ⟨by decide, rfl⟩ inU11 tyX11_ok nmX11 0 (by decide) rfl rfl wl_845 c2 dX11_mendAt_2 ?_
  refine x_aload_n F dX11_mendAt_5 rfl 0 rfl ?_
  obtain ⟨x6, c6, h⟩ := bdS h
  refine x_getI F (ci := 11) (C := RX11) (T := TX11) (N := 45) rfl ⟨by decide, rfl⟩ inU11 27 (by decide) (fun _ _ _ => rfl) wl_1141 c6 dX11_mendAt_6 ?_
  refine x_if_eq F (tgt := 30) dX11_mendAt_9 (by decide) (fun c9 => ?_) (fun c9 => ?_)
  · rw [if_pos c9] at h
    refine x_iconst F (v := (-1)) dX11_mendAt_30 (by decide) ?_
    obtain ⟨rfl, rfl⟩ := retS h
    exact x_iret F hr hl dX11_mendAt_31
  · rw [if_neg c9] at h
    refine x_iload_n F dX11_mendAt_12 rfl 1 rfl ?_
    refine x_iconst F (v := 0) dX11_mendAt_13 (by decide) ?_
    refine x_iconst F (v := 2) dX11_mendAt_14 (by decide) ?_
    obtain ⟨⟨x15, M15⟩, c15, h⟩ := bdS h
    dsimp only at h
    refine x_callS F (As := [.int v1, .int 0, .int 2]) (rest := []) (res := (some (.int x15))) (k_X11_isIn l b D cy N v1 0 2 M2 _ _ c15) wl_898 wl_899 wl_854 wl_857 (hd_X11_isIn).2 ⟨Nat.le_of_ble_eq_true rfl, Nat.le_of_ble_eq_true rfl⟩ ⟨Nat.le_refl _, Nat.le_refl _⟩ (Nat.le_of_ble_eq_true rfl) rfl dX11_mendAt_15 ?_
    refine x_if_eq F (tgt := 30) dX11_mendAt_18 (by decide) (fun c18 => ?_) (fun c18 => ?_)
    · rw [if_pos c18] at h
      refine x_iconst F (v := (-1)) dX11_mendAt_30 (by decide) ?_
      obtain ⟨rfl, rfl⟩ := retS h
      exact x_iret F hr hl dX11_mendAt_31
    · rw [if_neg c18] at h
      refine x_aload_n F dX11_mendAt_21 rfl 0 rfl ?_
      obtain ⟨x22, c22, h⟩ := bdS h
      refine x_getR F (ci := 11) (C := RX11) (T := TX11) (N := 45) rfl ⟨by decide, rfl⟩ inU11 26 (by decide) (fun _ _ _ => rfl) wl_924 c22 dX11_mendAt_22 ?_
      refine x_iload_n F dX11_mendAt_25 rfl 1 rfl ?_
      obtain ⟨x26, c26, h⟩ := bdS h
      refine x_aI F c26 dX11_mendAt_26 ?_
      refine x_goto F (tgt := 31) dX11_mendAt_27 (by decide) ?_
      obtain ⟨rfl, rfl⟩ := retS h
      exact x_iret F hr hl dX11_mendAt_31
theorem hd_X11_hasRoomFrom : (yX11_hasRoomFrom).cls = RX11 ∧ (yX11_hasRoomFrom).cls ≠ "java/lang/invoke/MethodHandle" ∧ (yX11_hasRoomFrom).cls ≠ "java/lang/invoke/VarHandle" ∧ (parseMethodDescriptor (yX11_hasRoomFrom).desc).map (fun d => d.parameters.length) = some 3 := by decide +kernel
theorem dX11_hasRoomFrom_0 : decode cX11_hasRoomFrom 0 = .ok (.iload_n 1, 1) := by decide +kernel
theorem dX11_hasRoomFrom_1 : decode cX11_hasRoomFrom 1 = .ok (.aload_n 0, 1) := by decide +kernel
theorem dX11_hasRoomFrom_2 : decode cX11_hasRoomFrom 2 = .ok (.getfield 98, 3) := by decide +kernel
theorem dX11_hasRoomFrom_5 : decode cX11_hasRoomFrom 5 = .ok (.iconst 2, 1) := by decide +kernel
theorem dX11_hasRoomFrom_6 : decode cX11_hasRoomFrom 6 = .ok (.iaload, 1) := by decide +kernel
theorem dX11_hasRoomFrom_7 : decode cX11_hasRoomFrom 7 = .ok (.if_icmp .ne 5, 3) := by decide +kernel
theorem dX11_hasRoomFrom_10 : decode cX11_hasRoomFrom 10 = .ok (.iconst 1, 1) := by decide +kernel
theorem dX11_hasRoomFrom_11 : decode cX11_hasRoomFrom 11 = .ok (.ireturn, 1) := by decide +kernel
theorem dX11_hasRoomFrom_12 : decode cX11_hasRoomFrom 12 = .ok (.aload_n 0, 1) := by decide +kernel
theorem dX11_hasRoomFrom_13 : decode cX11_hasRoomFrom 13 = .ok (.getfield 133, 3) := by decide +kernel
theorem dX11_hasRoomFrom_16 : decode cX11_hasRoomFrom 16 = .ok (.iload_n 1, 1) := by decide +kernel
theorem dX11_hasRoomFrom_17 : decode cX11_hasRoomFrom 17 = .ok (.iconst (-1), 1) := by decide +kernel
theorem dX11_hasRoomFrom_18 : decode cX11_hasRoomFrom 18 = .ok (.iastore, 1) := by decide +kernel
theorem dX11_hasRoomFrom_19 : decode cX11_hasRoomFrom 19 = .ok (.aload_n 0, 1) := by decide +kernel
theorem dX11_hasRoomFrom_20 : decode cX11_hasRoomFrom 20 = .ok (.getfield 98, 3) := by decide +kernel
theorem dX11_hasRoomFrom_23 : decode cX11_hasRoomFrom 23 = .ok (.bipush 38, 2) := by decide +kernel
theorem dX11_hasRoomFrom_25 : decode cX11_hasRoomFrom 25 = .ok (.iaload, 1) := by decide +kernel
theorem dX11_hasRoomFrom_26 : decode cX11_hasRoomFrom 26 = .ok (.iload_n 1, 1) := by decide +kernel
theorem dX11_hasRoomFrom_27 : decode cX11_hasRoomFrom 27 = .ok (.invokestatic 261, 3) := by decide +kernel
theorem dX11_hasRoomFrom_30 : decode cX11_hasRoomFrom 30 = .ok (.ifCond .eq 13, 3) := by decide +kernel
theorem dX11_hasRoomFrom_33 : decode cX11_hasRoomFrom 33 = .ok (.aload_n 0, 1) := by decide +kernel
theorem dX11_hasRoomFrom_34 : decode cX11_hasRoomFrom 34 = .ok (.iload_n 1, 1) := by decide +kernel
theorem dX11_hasRoomFrom_35 : decode cX11_hasRoomFrom 35 = .ok (.iconst 1, 1) := by decide +kernel
theorem dX11_hasRoomFrom_36 : decode cX11_hasRoomFrom 36 = .ok (.iadd, 1) := by decide +kernel
theorem dX11_hasRoomFrom_37 : decode cX11_hasRoomFrom 37 = .ok (.iload_n 2, 1) := by decide +kernel
theorem dX11_hasRoomFrom_38 : decode cX11_hasRoomFrom 38 = .ok (.iload_n 3, 1) := by decide +kernel
theorem dX11_hasRoomFrom_39 : decode cX11_hasRoomFrom 39 = .ok (.invokevirtual 327, 3) := by decide +kernel
theorem dX11_hasRoomFrom_42 : decode cX11_hasRoomFrom 42 = .ok (.ireturn, 1) := by decide +kernel
theorem dX11_hasRoomFrom_43 : decode cX11_hasRoomFrom 43 = .ok (.iconst 0, 1) := by decide +kernel
theorem dX11_hasRoomFrom_44 : decode cX11_hasRoomFrom 44 = .ok (.istore 4, 2) := by decide +kernel
theorem dX11_hasRoomFrom_46 : decode cX11_hasRoomFrom 46 = .ok (.iload 4, 2) := by decide +kernel
theorem dX11_hasRoomFrom_48 : decode cX11_hasRoomFrom 48 = .ok (.aload_n 0, 1) := by decide +kernel
theorem dX11_hasRoomFrom_49 : decode cX11_hasRoomFrom 49 = .ok (.getfield 98, 3) := by decide +kernel
theorem dX11_hasRoomFrom_52 : decode cX11_hasRoomFrom 52 = .ok (.iconst 0, 1) := by decide +kernel
theorem dX11_hasRoomFrom_53 : decode cX11_hasRoomFrom 53 = .ok (.iaload, 1) := by decide +kernel
theorem dX11_hasRoomFrom_54 : decode cX11_hasRoomFrom 54 = .ok (.if_icmp .ge 101, 3) := by decide +kernel
theorem dX11_hasRoomFrom_57 : decode cX11_hasRoomFrom 57 = .ok (.aload_n 0, 1) := by decide +kernel
theorem dX11_hasRoomFrom_58 : decode cX11_hasRoomFrom 58 = .ok (.getfield 139, 3) := by decide +kernel
theorem dX11_hasRoomFrom_61 : decode cX11_hasRoomFrom 61 = .ok (.iload 4, 2) := by decide +kernel
theorem dX11_hasRoomFrom_63 : decode cX11_hasRoomFrom 63 = .ok (.iaload, 1) := by decide +kernel
theorem dX11_hasRoomFrom_64 : decode cX11_hasRoomFrom 64 = .ok (.aload_n 0, 1) := by decide +kernel
theorem dX11_hasRoomFrom_65 : decode cX11_hasRoomFrom 65 = .ok (.iload_n 1, 1) := by decide +kernel
theorem dX11_hasRoomFrom_66 : decode cX11_hasRoomFrom 66 = .ok (.invokevirtual 216, 3) := by decide +kernel
theorem dX11_hasRoomFrom_69 : decode cX11_hasRoomFrom 69 = .ok (.if_icmp .lt 80, 3) := by decide +kernel
theorem dX11_hasRoomFrom_72 : decode cX11_hasRoomFrom 72 = .ok (.iload_n 2, 1) := by decide +kernel
theorem dX11_hasRoomFrom_73 : decode cX11_hasRoomFrom 73 = .ok (.iconst 1, 1) := by decide +kernel
theorem dX11_hasRoomFrom_74 : decode cX11_hasRoomFrom 74 = .ok (.iload 4, 2) := by decide +kernel
theorem dX11_hasRoomFrom_76 : decode cX11_hasRoomFrom 76 = .ok (.ishl, 1) := by decide +kernel
theorem dX11_hasRoomFrom_77 : decode cX11_hasRoomFrom 77 = .ok (.ior, 1) := by decide +kernel
theorem dX11_hasRoomFrom_78 : decode cX11_hasRoomFrom 78 = .ok (.invokestatic 305, 3) := by decide +kernel
theorem dX11_hasRoomFrom_81 : decode cX11_hasRoomFrom 81 = .ok (.iload_n 3, 1) := by decide +kernel
theorem dX11_hasRoomFrom_82 : decode cX11_hasRoomFrom 82 = .ok (.if_icmp .le 6, 3) := by decide +kernel
theorem dX11_hasRoomFrom_85 : decode cX11_hasRoomFrom 85 = .ok (.goto 64, 3) := by decide +kernel
theorem dX11_hasRoomFrom_88 : decode cX11_hasRoomFrom 88 = .ok (.aload_n 0, 1) := by decide +kernel
theorem dX11_hasRoomFrom_89 : decode cX11_hasRoomFrom 89 = .ok (.getfield 133, 3) := by decide +kernel
theorem dX11_hasRoomFrom_92 : decode cX11_hasRoomFrom 92 = .ok (.iload_n 1, 1) := by decide +kernel
theorem dX11_hasRoomFrom_93 : decode cX11_hasRoomFrom 93 = .ok (.iload 4, 2) := by decide +kernel
theorem dX11_hasRoomFrom_95 : decode cX11_hasRoomFrom 95 = .ok (.iastore, 1) := by decide +kernel
theorem dX11_hasRoomFrom_96 : decode cX11_hasRoomFrom 96 = .ok (.aload_n 0, 1) := by decide +kernel
theorem dX11_hasRoomFrom_97 : decode cX11_hasRoomFrom 97 = .ok (.getfield 139, 3) := by decide +kernel
theorem dX11_hasRoomFrom_100 : decode cX11_hasRoomFrom 100 = .ok (.iload 4, 2) := by decide +kernel
theorem dX11_hasRoomFrom_102 : decode cX11_hasRoomFrom 102 = .ok (.dup2, 1) := by decide +kernel
theorem dX11_hasRoomFrom_103 : decode cX11_hasRoomFrom 103 = .ok (.iaload, 1) := by decide +kernel
theorem dX11_hasRoomFrom_104 : decode cX11_hasRoomFrom 104 = .ok (.aload_n 0, 1) := by decide +kernel
theorem dX11_hasRoomFrom_105 : decode cX11_hasRoomFrom 105 = .ok (.iload_n 1, 1) := by decide +kernel
theorem dX11_hasRoomFrom_106 : decode cX11_hasRoomFrom 106 = .ok (.invokevirtual 216, 3) := by decide +kernel
theorem dX11_hasRoomFrom_109 : decode cX11_hasRoomFrom 109 = .ok (.isub, 1) := by decide +kernel
theorem dX11_hasRoomFrom_110 : decode cX11_hasRoomFrom 110 = .ok (.iastore, 1) := by decide +kernel
theorem dX11_hasRoomFrom_111 : decode cX11_hasRoomFrom 111 = .ok (.aload_n 0, 1) := by decide +kernel
theorem dX11_hasRoomFrom_112 : decode cX11_hasRoomFrom 112 = .ok (.iload_n 1, 1) := by decide +kernel
theorem dX11_hasRoomFrom_113 : decode cX11_hasRoomFrom 113 = .ok (.iconst 1, 1) := by decide +kernel
theorem dX11_hasRoomFrom_114 : decode cX11_hasRoomFrom 114 = .ok (.iadd, 1) := by decide +kernel
theorem dX11_hasRoomFrom_115 : decode cX11_hasRoomFrom 115 = .ok (.iload_n 2, 1) := by decide +kernel
theorem dX11_hasRoomFrom_116 : decode cX11_hasRoomFrom 116 = .ok (.iconst 1, 1) := by decide +kernel
theorem dX11_hasRoomFrom_117 : decode cX11_hasRoomFrom 117 = .ok (.iload 4, 2) := by decide +kernel
theorem dX11_hasRoomFrom_119 : decode cX11_hasRoomFrom 119 = .ok (.ishl, 1) := by decide +kernel
theorem dX11_hasRoomFrom_120 : decode cX11_hasRoomFrom 120 = .ok (.ior, 1) := by decide +kernel
theorem dX11_hasRoomFrom_121 : decode cX11_hasRoomFrom 121 = .ok (.iload_n 3, 1) := by decide +kernel
theorem dX11_hasRoomFrom_122 : decode cX11_hasRoomFrom 122 = .ok (.invokevirtual 327, 3) := by decide +kernel
theorem dX11_hasRoomFrom_125 : decode cX11_hasRoomFrom 125 = .ok (.istore 5, 2) := by decide +kernel
theorem dX11_hasRoomFrom_127 : decode cX11_hasRoomFrom 127 = .ok (.aload_n 0, 1) := by decide +kernel
theorem dX11_hasRoomFrom_128 : decode cX11_hasRoomFrom 128 = .ok (.getfield 139, 3) := by decide +kernel
theorem dX11_hasRoomFrom_131 : decode cX11_hasRoomFrom 131 = .ok (.iload 4, 2) := by decide +kernel
theorem dX11_hasRoomFrom_133 : decode cX11_hasRoomFrom 133 = .ok (.dup2, 1) := by decide +kernel
theorem dX11_hasRoomFrom_134 : decode cX11_hasRoomFrom 134 = .ok (.iaload, 1) := by decide +kernel
theorem dX11_hasRoomFrom_135 : decode cX11_hasRoomFrom 135 = .ok (.aload_n 0, 1) := by decide +kernel
theorem dX11_hasRoomFrom_136 : decode cX11_hasRoomFrom 136 = .ok (.iload_n 1, 1) := by decide +kernel
theorem dX11_hasRoomFrom_137 : decode cX11_hasRoomFrom 137 = .ok (.invokevirtual 216, 3) := by decide +kernel
theorem dX11_hasRoomFrom_140 : decode cX11_hasRoomFrom 140 = .ok (.iadd, 1) := by decide +kernel
theorem dX11_hasRoomFrom_141 : decode cX11_hasRoomFrom 141 = .ok (.iastore, 1) := by decide +kernel
theorem dX11_hasRoomFrom_142 : decode cX11_hasRoomFrom 142 = .ok (.iload 5, 2) := by decide +kernel
theorem dX11_hasRoomFrom_144 : decode cX11_hasRoomFrom 144 = .ok (.ifCond .eq 5, 3) := by decide +kernel
theorem dX11_hasRoomFrom_147 : decode cX11_hasRoomFrom 147 = .ok (.iconst 1, 1) := by decide +kernel
theorem dX11_hasRoomFrom_148 : decode cX11_hasRoomFrom 148 = .ok (.ireturn, 1) := by decide +kernel
theorem dX11_hasRoomFrom_149 : decode cX11_hasRoomFrom 149 = .ok (.iinc 4 1, 3) := by decide +kernel
theorem dX11_hasRoomFrom_152 : decode cX11_hasRoomFrom 152 = .ok (.goto (-106), 3) := by decide +kernel
theorem dX11_hasRoomFrom_155 : decode cX11_hasRoomFrom 155 = .ok (.iconst 0, 1) := by decide +kernel
theorem dX11_hasRoomFrom_156 : decode cX11_hasRoomFrom 156 = .ok (.ireturn, 1) := by decide +kernel
def fX11_hasRoomFrom_L46 (N : Nat) (rf : Nat → Int32 → Int32 → Int32 → Mem → Option (Int32 × Mem)) (v0 : Nat) (v1 : Int32) (v2 : Int32) (v3 : Int32) : Nat → Int32 → Mem → Option (Int32 × Mem)
  | 0, _, _ => none
  | n + 1, v4, M => ((fR M 11 v0 14).bind fun x49 => ((aI M x49 0).bind fun x53 => (if x53 ≤ v4 then some (0, M) else ((fR M 11 v0 30).bind fun x58 => ((aI M x58 v4).bind fun x63 => (if mK M v0 = 12 then ((fX11_longOf N v0 v1 M).bind fun (x66, M66) => (if x63 < x66 then fX11_hasRoomFrom_L46 N rf v0 v1 v2 v3 n (v4 + 1) M66 else ((fX11_bits N (v2 ||| (1 <<< (v4 &&& 31))) M66).bind fun (x78, M78) => (if x78 ≤ v3 then ((fR M78 11 v0 28).bind fun x89 => ((tI M78 x89 v1 v4).bind fun M95 => ((fR M95 11 v0 30).bind fun x97 => ((aI M95 x97 v4).bind fun x103 => (if mK M95 v0 = 12 then ((fX11_longOf N v0 v1 M95).bind fun (x106, M106) => ((tI M106 x97 v4 (x103 - x106)).bind fun M110 => (if mK M110 v0 = 12 then ((rf v0 (v1 + 1) (v2 ||| (1 <<< (v4 &&& 31))) v3 M110).bind fun (x122, M122) => ((fR M122 11 v0 30).bind fun x128 => ((aI M122 x128 v4).bind fun x134 => (if mK M122 v0 = 12 then ((fX11_longOf N v0 v1 M122).bind fun (x137, M137) => ((tI M137 x128 v4 (x134 + x137)).bind fun M141 => (if x122 = 0 then fX11_hasRoomFrom_L46 N rf v0 v1 v2 v3 n (v4 + 1) M141 else some (1, M141)))) else none)))) else none))) else none))))) else fX11_hasRoomFrom_L46 N rf v0 v1 v2 v3 n (v4 + 1) M78)))) else none))))))
def fX11_hasRoomFrom_b (N : Nat) (rf : Nat → Int32 → Int32 → Int32 → Mem → Option (Int32 × Mem)) (v0 : Nat) (v1 : Int32) (v2 : Int32) (v3 : Int32) (M : Mem) : Option (Int32 × Mem) := ((fR M 11 v0 14).bind fun x2 => ((aI M x2 2).bind fun x6 => (if v1 = x6 then some (1, M) else ((fR M 11 v0 28).bind fun x13 => ((tI M x13 v1 ((-1))).bind fun M18 => ((fR M18 11 v0 14).bind fun x20 => ((aI M18 x20 38).bind fun x25 => ((fX11_has N x25 v1 M18).bind fun (x27, M27) => (if x27 = 0 then ((fX11_hasRoomFrom_L46 N rf v0 v1 v2 v3 N 0 M27).bind fun o46 => some o46) else (if mK M27 v0 = 12 then ((rf v0 (v1 + 1) v2 v3 M27).bind fun (x39, M39) => (if vp_nar .boolean x39 = x39 then some (x39, M39) else none)) else none))))))))))
set_option maxHeartbeats 4000000 in
set_option maxRecDepth 100000 in
theorem kb_X11_hasRoomFrom (l : Launch) (b : Nat) (D : va_G) (cy : Nat → ClassId) (N n0 : Nat) (hn0 : 2 ≤ n0) (rf : Nat → Int32 → Int32 → Int32 → Mem → Option (Int32 × Mem)) (hrf_X11_hasRoomFrom : ∀ (v0 : Nat) (v1 : Int32) (v2 : Int32) (v3 : Int32) (M : Mem) (r : Int32) (Mf : Mem), rf v0 v1 v2 v3 M = some (r, Mf) → Ct l yX11_hasRoomFrom cX11_hasRoomFrom 6 (some .boolean) n0 0 0 b D cy [.ref (b + v0), .int v1, .int v2, .int v3] M (some (.int r)) Mf) (v0 : Nat) (v1 : Int32) (v2 : Int32) (v3 : Int32) (M : Mem) (r : Int32) (Mf : Mem) (h : fX11_hasRoomFrom_b N rf v0 v1 v2 v3 M = some (r, Mf)) : Ct l yX11_hasRoomFrom cX11_hasRoomFrom 6 (some .boolean) (n0 + 1) 0 0 b D cy [.ref (b + v0), .int v1, .int v2, .int v3] M (some (.int r)) Mf := by
  refine Ct_of (own := RX11) (by decide) rfl (Nat.le_of_ble_eq_true rfl) ?_
  intro p e s m args below meth c F hr hl hmn
  unfold fX11_hasRoomFrom_b at h
  show X p l e ({ frames := n0 + 1, cells := 0, slots := 0, locals := 100 * (n0 + 1) }) s m args below meth c (MQ below (Qm b D cy (some (.int r)) Mf) args s 0 0 (fun q => b ≤ q)) 6 b D cy 0 0 M 0 [(0, .ref (b + v0)), (1, .int v1), (2, .int v2), (3, .int v3)] []
  refine x_iload_n F dX11_hasRoomFrom_0 rfl 1 rfl ?_
  refine x_aload_n F dX11_hasRoomFrom_1 rfl 0 rfl ?_
  obtain ⟨x2, c2, h⟩ := bdS h
  refine x_getR F (ci := 11) (C := RX11) (T := TX11) (N := 45) rfl ⟨by decide, rfl⟩ inU11 14 (by decide) (fun _ _ _ => rfl) wl_913 c2 dX11_hasRoomFrom_2 ?_
  refine x_iconst F (v := 2) dX11_hasRoomFrom_5 (by decide) ?_
  obtain ⟨x6, c6, h⟩ := bdS h
  refine x_aI F c6 dX11_hasRoomFrom_6 ?_
  refine x_icmp_ne F (tgt := 12) dX11_hasRoomFrom_7 (by decide) (fun c7 => ?_) (fun c7 => ?_)
  · rw [if_neg c7] at h
    refine x_aload_n F dX11_hasRoomFrom_12 rfl 0 rfl ?_
    obtain ⟨x13, c13, h⟩ := bdS h
    refine x_getR F (ci := 11) (C := RX11) (T := TX11) (N := 45) rfl ⟨by decide, rfl⟩ inU11 28 (by decide) (fun _ _ _ => rfl) wl_925 c13 dX11_hasRoomFrom_13 ?_
    refine x_iload_n F dX11_hasRoomFrom_16 rfl 1 rfl ?_
    refine x_iconst F (v := (-1)) dX11_hasRoomFrom_17 (by decide) ?_
    obtain ⟨M18, c18, h⟩ := bdS h
    refine x_tI F c18 dX11_hasRoomFrom_18 ?_
    refine x_aload_n F dX11_hasRoomFrom_19 rfl 0 rfl ?_
    obtain ⟨x20, c20, h⟩ := bdS h
    refine x_getR F (ci := 11) (C := RX11) (T := TX11) (N := 45) rfl ⟨by decide, rfl⟩ inU11 14 (by decide) (fun _ _ _ => rfl) wl_913 c20 dX11_hasRoomFrom_20 ?_
    refine x_bipush F (v := 38) dX11_hasRoomFrom_23 (by decide) ?_
    obtain ⟨x25, c25, h⟩ := bdS h
    refine x_aI F c25 dX11_hasRoomFrom_25 ?_
    refine x_iload_n F dX11_hasRoomFrom_26 rfl 1 rfl ?_
    obtain ⟨⟨x27, M27⟩, c27, h⟩ := bdS h
    dsimp only at h
    refine x_callS F (As := [.int x25, .int v1]) (rest := []) (res := (some (.int x27))) (k_X11_has l b D cy N x25 v1 M18 _ _ c27) wl_1057 wl_1058 wl_854 wl_858 (hd_X11_has).2 ⟨by show 1 + 1 ≤ n0 + 1; omega, by show 8 + (2 + 11) + 100 * 1 ≤ 100 * (n0 + 1); omega⟩ ⟨Nat.le_refl _, Nat.le_refl _⟩ (Nat.le_of_ble_eq_true rfl) rfl dX11_hasRoomFrom_27 ?_
    refine x_if_eq F (tgt := 43) dX11_hasRoomFrom_30 (by decide) (fun c30 => ?_) (fun c30 => ?_)
    · rw [if_pos c30] at h
      refine x_iconst F (v := 0) dX11_hasRoomFrom_43 (by decide) ?_
      refine x_istore F (lv' := [(4, .int 0), (0, .ref (b + v0)), (1, .int v1), (2, .int v2), (3, .int v3)]) dX11_hasRoomFrom_44 (by decide) rfl ?_
      have L46 : ∀ (v0 : Nat) (v1 : Int32) (v2 : Int32) (v3 : Int32) (n : Nat) (v4 : Int32) (M : Mem) (o : Int32 × Mem), fX11_hasRoomFrom_L46 N rf v0 v1 v2 v3 n v4 M = some o → (∀ (r' : Int32) (M' : Mem), o = (r', M') → r' = r ∧ M' = Mf) → X p l e ({ frames := n0 + 1, cells := 0, slots := 0, locals := 100 * (n0 + 1) }) s m args below meth c (MQ below (Qm b D cy (some (.int r)) Mf) args s 0 0 (fun q => b ≤ q)) 6 b D cy 0 0 M 46 [(0, .ref (b + v0)), (1, .int v1), (2, .int v2), (3, .int v3), (4, .int v4)] [] := by
        intro v0 v1 v2 v3 n
        induction n with
        | zero => intro v4 M o h; exact absurd h (by rw [fX11_hasRoomFrom_L46]; exact fun z => by cases z)
        | succ n ih =>
          intro v4 M o h hR
          rw [fX11_hasRoomFrom_L46] at h
          refine x_iload F dX11_hasRoomFrom_46 4 rfl ?_
          refine x_aload_n F dX11_hasRoomFrom_48 rfl 0 rfl ?_
          obtain ⟨x49, c49, h⟩ := bdS h
          refine x_getR F (ci := 11) (C := RX11) (T := TX11) (N := 45) rfl ⟨by decide, rfl⟩ inU11 14 (by decide) (fun _ _ _ => rfl) wl_913 c49 dX11_hasRoomFrom_49 ?_
          refine x_iconst F (v := 0) dX11_hasRoomFrom_52 (by decide) ?_
          obtain ⟨x53, c53, h⟩ := bdS h
          refine x_aI F c53 dX11_hasRoomFrom_53 ?_
          refine x_icmp_ge F (tgt := 155) dX11_hasRoomFrom_54 (by decide) (fun c54 => ?_) (fun c54 => ?_)
          · rw [if_pos c54] at h
            refine x_iconst F (v := 0) dX11_hasRoomFrom_155 (by decide) ?_
            obtain rfl := Option.some.inj h
            obtain ⟨rfl, rfl⟩ := hR _ _ rfl
            exact x_zret F hr hl (by decide) dX11_hasRoomFrom_156
          · rw [if_neg c54] at h
            refine x_aload_n F dX11_hasRoomFrom_57 rfl 0 rfl ?_
            obtain ⟨x58, c58, h⟩ := bdS h
            refine x_getR F (ci := 11) (C := RX11) (T := TX11) (N := 45) rfl ⟨by decide, rfl⟩ inU11 30 (by decide) (fun _ _ _ => rfl) wl_927 c58 dX11_hasRoomFrom_58 ?_
            refine x_iload F dX11_hasRoomFrom_61 4 rfl ?_
            obtain ⟨x63, c63, h⟩ := bdS h
            refine x_aI F c63 dX11_hasRoomFrom_63 ?_
            refine x_aload_n F dX11_hasRoomFrom_64 rfl 0 rfl ?_
            refine x_iload_n F dX11_hasRoomFrom_65 rfl 1 rfl ?_
            obtain ⟨k66, h⟩ := gdS h
            obtain ⟨⟨x66, M66⟩, c66, h⟩ := bdS h
            dsimp only at h
            refine x_callV F (As := [.int v1]) (rest := [.int x63]) (res := (some (.int x66))) (ci := 11) (q := (RX11, TX11, 45)) rfl (by decide) k66 (k_X11_longOf l b D cy N v0 v1 M _ _ c66) wl_1005 wl_1006 wl_1007 wl_854 wl_1003 hd_X11_longOf ⟨by show 1 + 1 ≤ n0 + 1; omega, by show 8 + (2 + 11) + 100 * 1 ≤ 100 * (n0 + 1); omega⟩ ⟨Nat.le_refl _, Nat.le_refl _⟩ (Nat.le_of_ble_eq_true rfl) rfl dX11_hasRoomFrom_66 ?_
            refine x_icmp_lt F (tgt := 149) dX11_hasRoomFrom_69 (by decide) (fun c69 => ?_) (fun c69 => ?_)
            · rw [if_pos c69] at h
              refine x_iinc F (v := v4 + 1) (lv' := [(4, .int (v4 + 1)), (0, .ref (b + v0)), (1, .int v1), (2, .int v2), (3, .int v3)]) dX11_hasRoomFrom_149 4 rfl rfl (by decide) rfl ?_
              refine x_goto F (tgt := 46) dX11_hasRoomFrom_152 (by decide) ?_
              refine x_sub [1, 2, 3, 4, 0] rfl ?_
              exact ih (v4 + 1) M66 o h hR
            · rw [if_neg c69] at h
              refine x_iload_n F dX11_hasRoomFrom_72 rfl 2 rfl ?_
              refine x_iconst F (v := 1) dX11_hasRoomFrom_73 (by decide) ?_
              refine x_iload F dX11_hasRoomFrom_74 4 rfl ?_
              refine x_ishl F dX11_hasRoomFrom_76 ?_
              refine x_ior F dX11_hasRoomFrom_77 ?_
              obtain ⟨⟨x78, M78⟩, c78, h⟩ := bdS h
              dsimp only at h
              refine x_callS F (As := [.int (v2 ||| (1 <<< (v4 &&& 31)))]) (rest := []) (res := (some (.int x78))) (k_X11_bits l b D cy N (v2 ||| (1 <<< (v4 &&& 31))) M66 _ _ c78) wl_1117 wl_1118 wl_854 wl_859 (hd_X11_bits).2 ⟨by show 1 + 1 ≤ n0 + 1; omega, by show 8 + (3 + 11) + 100 * 1 ≤ 100 * (n0 + 1); omega⟩ ⟨Nat.le_refl _, Nat.le_refl _⟩ (Nat.le_of_ble_eq_true rfl) rfl dX11_hasRoomFrom_78 ?_
              refine x_iload_n F dX11_hasRoomFrom_81 rfl 3 rfl ?_
              refine x_icmp_le F (tgt := 88) dX11_hasRoomFrom_82 (by decide) (fun c82 => ?_) (fun c82 => ?_)
              · rw [if_pos c82] at h
                refine x_aload_n F dX11_hasRoomFrom_88 rfl 0 rfl ?_
                obtain ⟨x89, c89, h⟩ := bdS h
                refine x_getR F (ci := 11) (C := RX11) (T := TX11) (N := 45) rfl ⟨by decide, rfl⟩ inU11 28 (by decide) (fun _ _ _ => rfl) wl_925 c89 dX11_hasRoomFrom_89 ?_
                refine x_iload_n F dX11_hasRoomFrom_92 rfl 1 rfl ?_
                refine x_iload F dX11_hasRoomFrom_93 4 rfl ?_
                obtain ⟨M95, c95, h⟩ := bdS h
                refine x_tI F c95 dX11_hasRoomFrom_95 ?_
                refine x_aload_n F dX11_hasRoomFrom_96 rfl 0 rfl ?_
                obtain ⟨x97, c97, h⟩ := bdS h
                refine x_getR F (ci := 11) (C := RX11) (T := TX11) (N := 45) rfl ⟨by decide, rfl⟩ inU11 30 (by decide) (fun _ _ _ => rfl) wl_927 c97 dX11_hasRoomFrom_97 ?_
                refine x_iload F dX11_hasRoomFrom_100 4 rfl ?_
                refine x_dup2 F dX11_hasRoomFrom_102 rfl rfl ?_
                obtain ⟨x103, c103, h⟩ := bdS h
                refine x_aI F c103 dX11_hasRoomFrom_103 ?_
                refine x_aload_n F dX11_hasRoomFrom_104 rfl 0 rfl ?_
                refine x_iload_n F dX11_hasRoomFrom_105 rfl 1 rfl ?_
                obtain ⟨k106, h⟩ := gdS h
                obtain ⟨⟨x106, M106⟩, c106, h⟩ := bdS h
                dsimp only at h
                refine x_callV F (As := [.int v1]) (rest := [.int x103, .int v4, .ref (b + x97)]) (res := (some (.int x106))) (ci := 11) (q := (RX11, TX11, 45)) rfl (by decide) k106 (k_X11_longOf l b D cy N v0 v1 M95 _ _ c106) wl_1005 wl_1006 wl_1007 wl_854 wl_1003 hd_X11_longOf ⟨by show 1 + 1 ≤ n0 + 1; omega, by show 8 + (2 + 11) + 100 * 1 ≤ 100 * (n0 + 1); omega⟩ ⟨Nat.le_refl _, Nat.le_refl _⟩ (Nat.le_of_ble_eq_true rfl) rfl dX11_hasRoomFrom_106 ?_
                refine x_isub F dX11_hasRoomFrom_109 ?_
                obtain ⟨M110, c110, h⟩ := bdS h
                refine x_tI F c110 dX11_hasRoomFrom_110 ?_
                refine x_aload_n F dX11_hasRoomFrom_111 rfl 0 rfl ?_
                refine x_iload_n F dX11_hasRoomFrom_112 rfl 1 rfl ?_
                refine x_iconst F (v := 1) dX11_hasRoomFrom_113 (by decide) ?_
                refine x_iadd F dX11_hasRoomFrom_114 ?_
                refine x_iload_n F dX11_hasRoomFrom_115 rfl 2 rfl ?_
                refine x_iconst F (v := 1) dX11_hasRoomFrom_116 (by decide) ?_
                refine x_iload F dX11_hasRoomFrom_117 4 rfl ?_
                refine x_ishl F dX11_hasRoomFrom_119 ?_
                refine x_ior F dX11_hasRoomFrom_120 ?_
                refine x_iload_n F dX11_hasRoomFrom_121 rfl 3 rfl ?_
                obtain ⟨k122, h⟩ := gdS h
                obtain ⟨⟨x122, M122⟩, c122, h⟩ := bdS h
                dsimp only at h
                refine x_callV F (As := [.int (v1 + 1), .int (v2 ||| (1 <<< (v4 &&& 31))), .int v3]) (rest := []) (res := (some (.int x122))) (ci := 11) (q := (RX11, TX11, 45)) rfl (by decide) k122 (hrf_X11_hasRoomFrom v0 (v1 + 1) (v2 ||| (1 <<< (v4 &&& 31))) v3 M110 _ _ c122) wl_1145 wl_1146 wl_1147 wl_854 wl_1144 hd_X11_hasRoomFrom ⟨by show n0 + 1 ≤ n0 + 1; omega, by show 8 + (6 + 11) + 100 * n0 ≤ 100 * (n0 + 1); omega⟩ ⟨Nat.le_refl _, Nat.le_refl _⟩ (Nat.le_of_ble_eq_true rfl) rfl dX11_hasRoomFrom_122 ?_
                refine x_istore F (lv' := [(5, .int x122), (0, .ref (b + v0)), (1, .int v1), (2, .int v2), (3, .int v3), (4, .int v4)]) dX11_hasRoomFrom_125 (by decide) rfl ?_
                refine x_aload_n F dX11_hasRoomFrom_127 rfl 1 rfl ?_
                obtain ⟨x128, c128, h⟩ := bdS h
                refine x_getR F (ci := 11) (C := RX11) (T := TX11) (N := 45) rfl ⟨by decide, rfl⟩ inU11 30 (by decide) (fun _ _ _ => rfl) wl_927 c128 dX11_hasRoomFrom_128 ?_
                refine x_iload F dX11_hasRoomFrom_131 5 rfl ?_
                refine x_dup2 F dX11_hasRoomFrom_133 rfl rfl ?_
                obtain ⟨x134, c134, h⟩ := bdS h
                refine x_aI F c134 dX11_hasRoomFrom_134 ?_
                refine x_aload_n F dX11_hasRoomFrom_135 rfl 1 rfl ?_
                refine x_iload_n F dX11_hasRoomFrom_136 rfl 2 rfl ?_
                obtain ⟨k137, h⟩ := gdS h
                obtain ⟨⟨x137, M137⟩, c137, h⟩ := bdS h
                dsimp only at h
                refine x_callV F (As := [.int v1]) (rest := [.int x134, .int v4, .ref (b + x128)]) (res := (some (.int x137))) (ci := 11) (q := (RX11, TX11, 45)) rfl (by decide) k137 (k_X11_longOf l b D cy N v0 v1 M122 _ _ c137) wl_1005 wl_1006 wl_1007 wl_854 wl_1003 hd_X11_longOf ⟨by show 1 + 1 ≤ n0 + 1; omega, by show 8 + (2 + 11) + 100 * 1 ≤ 100 * (n0 + 1); omega⟩ ⟨Nat.le_refl _, Nat.le_refl _⟩ (Nat.le_of_ble_eq_true rfl) rfl dX11_hasRoomFrom_137 ?_
                refine x_iadd F dX11_hasRoomFrom_140 ?_
                obtain ⟨M141, c141, h⟩ := bdS h
                refine x_tI F c141 dX11_hasRoomFrom_141 ?_
                refine x_iload F dX11_hasRoomFrom_142 0 rfl ?_
                refine x_if_eq F (tgt := 149) dX11_hasRoomFrom_144 (by decide) (fun c144 => ?_) (fun c144 => ?_)
                · rw [if_pos c144] at h
                  refine x_iinc F (v := v4 + 1) (lv' := [(4, .int (v4 + 1)), (5, .int x122), (0, .ref (b + v0)), (1, .int v1), (2, .int v2), (3, .int v3)]) dX11_hasRoomFrom_149 5 rfl rfl (by decide) rfl ?_
                  refine x_goto F (tgt := 46) dX11_hasRoomFrom_152 (by decide) ?_
                  refine x_sub [2, 3, 4, 5, 0] rfl ?_
                  exact ih (v4 + 1) M141 o h hR
                · rw [if_neg c144] at h
                  refine x_iconst F (v := 1) dX11_hasRoomFrom_147 (by decide) ?_
                  obtain rfl := Option.some.inj h
                  obtain ⟨rfl, rfl⟩ := hR _ _ rfl
                  exact x_zret F hr hl (by decide) dX11_hasRoomFrom_148
              · rw [if_neg c82] at h
                refine x_goto F (tgt := 149) dX11_hasRoomFrom_85 (by decide) ?_
                refine x_iinc F (v := v4 + 1) (lv' := [(4, .int (v4 + 1)), (0, .ref (b + v0)), (1, .int v1), (2, .int v2), (3, .int v3)]) dX11_hasRoomFrom_149 4 rfl rfl (by decide) rfl ?_
                refine x_goto F (tgt := 46) dX11_hasRoomFrom_152 (by decide) ?_
                refine x_sub [1, 2, 3, 4, 0] rfl ?_
                exact ih (v4 + 1) M78 o h hR
      obtain ⟨o46, h46, h⟩ := bdS h
      refine x_sub [1, 2, 3, 4, 0] rfl ?_
      refine L46 v0 v1 v2 v3 N 0 M27 o46 h46 (fun r' M' e => ?_)
      · subst e
        try dsimp only at h
        obtain ⟨rfl, rfl⟩ := retS h; exact ⟨rfl, rfl⟩
    · rw [if_neg c30] at h
      refine x_aload_n F dX11_hasRoomFrom_33 rfl 0 rfl ?_
      refine x_iload_n F dX11_hasRoomFrom_34 rfl 1 rfl ?_
      refine x_iconst F (v := 1) dX11_hasRoomFrom_35 (by decide) ?_
      refine x_iadd F dX11_hasRoomFrom_36 ?_
      refine x_iload_n F dX11_hasRoomFrom_37 rfl 2 rfl ?_
      refine x_iload_n F dX11_hasRoomFrom_38 rfl 3 rfl ?_
      obtain ⟨k39, h⟩ := gdS h
      obtain ⟨⟨x39, M39⟩, c39, h⟩ := bdS h
      dsimp only at h
      refine x_callV F (As := [.int (v1 + 1), .int v2, .int v3]) (rest := []) (res := (some (.int x39))) (ci := 11) (q := (RX11, TX11, 45)) rfl (by decide) k39 (hrf_X11_hasRoomFrom v0 (v1 + 1) v2 v3 M27 _ _ c39) wl_1145 wl_1146 wl_1147 wl_854 wl_1144 hd_X11_hasRoomFrom ⟨by show n0 + 1 ≤ n0 + 1; omega, by show 8 + (6 + 11) + 100 * n0 ≤ 100 * (n0 + 1); omega⟩ ⟨Nat.le_refl _, Nat.le_refl _⟩ (Nat.le_of_ble_eq_true rfl) rfl dX11_hasRoomFrom_39 ?_
      obtain ⟨c42, h⟩ := gdS h
      obtain ⟨rfl, rfl⟩ := retS h
      exact x_zret F hr hl c42 dX11_hasRoomFrom_42
  · rw [if_pos c7] at h
    refine x_iconst F (v := 1) dX11_hasRoomFrom_10 (by decide) ?_
    obtain ⟨rfl, rfl⟩ := retS h
    exact x_zret F hr hl (by decide) dX11_hasRoomFrom_11
def fX11_hasRoomFrom (N : Nat) : Nat → Nat → Int32 → Int32 → Int32 → Mem → Option (Int32 × Mem)
  | 0, _, _, _, _, _ => none
  | d + 1, v0, v1, v2, v3, M => fX11_hasRoomFrom_b N (fX11_hasRoomFrom N d) v0 v1 v2 v3 M
theorem kg_X11_hasRoomFrom (l : Launch) (b : Nat) (D : va_G) (cy : Nat → ClassId) (N : Nat) : ∀ d : Nat, (∀ (v0 : Nat) (v1 : Int32) (v2 : Int32) (v3 : Int32) (M : Mem) (r : Int32) (Mf : Mem), fX11_hasRoomFrom N d v0 v1 v2 v3 M = some (r, Mf) → Ct l yX11_hasRoomFrom cX11_hasRoomFrom 6 (some .boolean) (2 + d) 0 0 b D cy [.ref (b + v0), .int v1, .int v2, .int v3] M (some (.int r)) Mf) := by
  intro d
  induction d with
  | zero => exact fun v0 v1 v2 v3 M r Mf h => (by rw [fX11_hasRoomFrom] at h; cases h)
  | succ d ih =>
    exact fun v0 v1 v2 v3 M r Mf h => (by rw [fX11_hasRoomFrom] at h; exact kb_X11_hasRoomFrom l b D cy N (2 + d) (by omega) _ (ih) v0 v1 v2 v3 M r Mf h)
theorem k_X11_hasRoomFrom (l : Launch) (b : Nat) (D : va_G) (cy : Nat → ClassId) (N d : Nat) (v0 : Nat) (v1 : Int32) (v2 : Int32) (v3 : Int32) (M : Mem) (r : Int32) (Mf : Mem) (h : fX11_hasRoomFrom N d v0 v1 v2 v3 M = some (r, Mf)) : Ct l yX11_hasRoomFrom cX11_hasRoomFrom 6 (some .boolean) (2 + d) 0 0 b D cy [.ref (b + v0), .int v1, .int v2, .int v3] M (some (.int r)) Mf := (kg_X11_hasRoomFrom l b D cy N d) v0 v1 v2 v3 M r Mf h
theorem dX11_room_0 : decode cX11_room 0 = .ok (.aload_n 0, 1) := by decide +kernel
theorem dX11_room_1 : decode cX11_room 1 = .ok (.iconst 0, 1) := by decide +kernel
theorem dX11_room_2 : decode cX11_room 2 = .ok (.putfield 1, 3) := by decide +kernel
theorem dX11_room_5 : decode cX11_room 5 = .ok (.iconst 0, 1) := by decide +kernel
theorem dX11_room_6 : decode cX11_room 6 = .ok (.istore_n 1, 1) := by decide +kernel
theorem dX11_room_7 : decode cX11_room 7 = .ok (.iload_n 1, 1) := by decide +kernel
theorem dX11_room_8 : decode cX11_room 8 = .ok (.bipush 6, 2) := by decide +kernel
theorem dX11_room_10 : decode cX11_room 10 = .ok (.if_icmp .ge 24, 3) := by decide +kernel
theorem dX11_room_13 : decode cX11_room 13 = .ok (.aload_n 0, 1) := by decide +kernel
theorem dX11_room_14 : decode cX11_room 14 = .ok (.getfield 139, 3) := by decide +kernel
theorem dX11_room_17 : decode cX11_room 17 = .ok (.iload_n 1, 1) := by decide +kernel
theorem dX11_room_18 : decode cX11_room 18 = .ok (.aload_n 0, 1) := by decide +kernel
theorem dX11_room_19 : decode cX11_room 19 = .ok (.getfield 98, 3) := by decide +kernel
theorem dX11_room_22 : decode cX11_room 22 = .ok (.bipush 11, 2) := by decide +kernel
theorem dX11_room_24 : decode cX11_room 24 = .ok (.iload_n 1, 1) := by decide +kernel
theorem dX11_room_25 : decode cX11_room 25 = .ok (.iadd, 1) := by decide +kernel
theorem dX11_room_26 : decode cX11_room 26 = .ok (.iaload, 1) := by decide +kernel
theorem dX11_room_27 : decode cX11_room 27 = .ok (.iastore, 1) := by decide +kernel
theorem dX11_room_28 : decode cX11_room 28 = .ok (.iinc 1 1, 3) := by decide +kernel
theorem dX11_room_31 : decode cX11_room 31 = .ok (.goto (-24), 3) := by decide +kernel
theorem dX11_room_34 : decode cX11_room 34 = .ok (.iconst 0, 1) := by decide +kernel
theorem dX11_room_35 : decode cX11_room 35 = .ok (.istore_n 1, 1) := by decide +kernel
theorem dX11_room_36 : decode cX11_room 36 = .ok (.iload_n 1, 1) := by decide +kernel
theorem dX11_room_37 : decode cX11_room 37 = .ok (.aload_n 0, 1) := by decide +kernel
theorem dX11_room_38 : decode cX11_room 38 = .ok (.getfield 98, 3) := by decide +kernel
theorem dX11_room_41 : decode cX11_room 41 = .ok (.iconst 0, 1) := by decide +kernel
theorem dX11_room_42 : decode cX11_room 42 = .ok (.iaload, 1) := by decide +kernel
theorem dX11_room_43 : decode cX11_room 43 = .ok (.if_icmp .gt 69, 3) := by decide +kernel
theorem dX11_room_46 : decode cX11_room 46 = .ok (.aload_n 0, 1) := by decide +kernel
theorem dX11_room_47 : decode cX11_room 47 = .ok (.iconst 0, 1) := by decide +kernel
theorem dX11_room_48 : decode cX11_room 48 = .ok (.iconst 0, 1) := by decide +kernel
theorem dX11_room_49 : decode cX11_room 49 = .ok (.iload_n 1, 1) := by decide +kernel
theorem dX11_room_50 : decode cX11_room 50 = .ok (.invokevirtual 327, 3) := by decide +kernel
theorem dX11_room_53 : decode cX11_room 53 = .ok (.ifCond .ne 6, 3) := by decide +kernel
theorem dX11_room_56 : decode cX11_room 56 = .ok (.goto 50, 3) := by decide +kernel
theorem dX11_room_59 : decode cX11_room 59 = .ok (.iconst 0, 1) := by decide +kernel
theorem dX11_room_60 : decode cX11_room 60 = .ok (.istore_n 2, 1) := by decide +kernel
theorem dX11_room_61 : decode cX11_room 61 = .ok (.iload_n 2, 1) := by decide +kernel
theorem dX11_room_62 : decode cX11_room 62 = .ok (.aload_n 0, 1) := by decide +kernel
theorem dX11_room_63 : decode cX11_room 63 = .ok (.getfield 98, 3) := by decide +kernel
theorem dX11_room_66 : decode cX11_room 66 = .ok (.iconst 2, 1) := by decide +kernel
theorem dX11_room_67 : decode cX11_room 67 = .ok (.iaload, 1) := by decide +kernel
theorem dX11_room_68 : decode cX11_room 68 = .ok (.if_icmp .ge 21, 3) := by decide +kernel
theorem dX11_room_71 : decode cX11_room 71 = .ok (.aload_n 0, 1) := by decide +kernel
theorem dX11_room_72 : decode cX11_room 72 = .ok (.getfield 136, 3) := by decide +kernel
theorem dX11_room_75 : decode cX11_room 75 = .ok (.iload_n 2, 1) := by decide +kernel
theorem dX11_room_76 : decode cX11_room 76 = .ok (.aload_n 0, 1) := by decide +kernel
theorem dX11_room_77 : decode cX11_room 77 = .ok (.getfield 133, 3) := by decide +kernel
theorem dX11_room_80 : decode cX11_room 80 = .ok (.iload_n 2, 1) := by decide +kernel
theorem dX11_room_81 : decode cX11_room 81 = .ok (.iaload, 1) := by decide +kernel
theorem dX11_room_82 : decode cX11_room 82 = .ok (.iastore, 1) := by decide +kernel
theorem dX11_room_83 : decode cX11_room 83 = .ok (.iinc 2 1, 3) := by decide +kernel
theorem dX11_room_86 : decode cX11_room 86 = .ok (.goto (-25), 3) := by decide +kernel
theorem dX11_room_89 : decode cX11_room 89 = .ok (.aload_n 0, 1) := by decide +kernel
theorem dX11_room_90 : decode cX11_room 90 = .ok (.aload_n 0, 1) := by decide +kernel
theorem dX11_room_91 : decode cX11_room 91 = .ok (.getfield 98, 3) := by decide +kernel
theorem dX11_room_94 : decode cX11_room 94 = .ok (.iconst 2, 1) := by decide +kernel
theorem dX11_room_95 : decode cX11_room 95 = .ok (.iaload, 1) := by decide +kernel
theorem dX11_room_96 : decode cX11_room 96 = .ok (.putfield 330, 3) := by decide +kernel
theorem dX11_room_99 : decode cX11_room 99 = .ok (.aload_n 0, 1) := by decide +kernel
theorem dX11_room_100 : decode cX11_room 100 = .ok (.iconst 1, 1) := by decide +kernel
theorem dX11_room_101 : decode cX11_room 101 = .ok (.putfield 333, 3) := by decide +kernel
theorem dX11_room_104 : decode cX11_room 104 = .ok (.iload_n 1, 1) := by decide +kernel
theorem dX11_room_105 : decode cX11_room 105 = .ok (.ireturn, 1) := by decide +kernel
theorem dX11_room_106 : decode cX11_room 106 = .ok (.iinc 1 1, 3) := by decide +kernel
theorem dX11_room_109 : decode cX11_room 109 = .ok (.goto (-73), 3) := by decide +kernel
theorem dX11_room_112 : decode cX11_room 112 = .ok (.iconst (-1), 1) := by decide +kernel
theorem dX11_room_113 : decode cX11_room 113 = .ok (.ireturn, 1) := by decide +kernel
def fX11_room_L7 (N : Nat) (v0 : Nat) : Nat → Int32 → Mem → Option (Mem)
  | 0, _, _ => none
  | n + 1, v1, M => (if 6 ≤ v1 then some M else ((fR M 11 v0 30).bind fun x14 => ((fR M 11 v0 14).bind fun x19 => ((aI M x19 (11 + v1)).bind fun x26 => ((tI M x14 v1 x26).bind fun M27 => fX11_room_L7 N v0 n (v1 + 1) M27)))))
def fX11_room_L36 (N : Nat) (v0 : Nat) : Nat → Int32 → Mem → Option ((Int32 × Mem) ⊕ (Int32 × Mem))
  | 0, _, _ => none
  | n + 1, v1, M => ((fR M 11 v0 14).bind fun x38 => ((aI M x38 0).bind fun x42 => (if x42 < v1 then some (.inr ((-1), M)) else (if mK M v0 = 12 then ((fX11_hasRoomFrom N 8 v0 0 0 v1 M).bind fun (x50, M50) => (if x50 = 0 then fX11_room_L36 N v0 n (v1 + 1) M50 else some (.inl (v1, M50)))) else none))))
def fX11_room_L61 (N : Nat) (v0 : Nat) (v1 : Int32) : Nat → Int32 → Mem → Option (Mem)
  | 0, _, _ => none
  | n + 1, v2, M => ((fR M 11 v0 14).bind fun x63 => ((aI M x63 2).bind fun x67 => (if x67 ≤ v2 then some M else ((fR M 11 v0 29).bind fun x72 => ((fR M 11 v0 28).bind fun x77 => ((aI M x77 v2).bind fun x81 => ((tI M x72 v2 x81).bind fun M82 => fX11_room_L61 N v0 v1 n (v2 + 1) M82)))))))
def fX11_room (N : Nat) (v0 : Nat) (M : Mem) : Option (Int32 × Mem) := ((pI M 11 v0 0 0).bind fun M2 => ((fX11_room_L7 N v0 N 0 M2).bind fun o7 => ((fX11_room_L36 N v0 N 0 o7).bind fun o36 => match o36 with | .inl (w1_36, M36) => ((fX11_room_L61 N v0 w1_36 N 0 M36).bind fun o61 => ((fR o61 11 v0 14).bind fun x91 => ((aI o61 x91 2).bind fun x95 => ((pI o61 11 v0 31 x95).bind fun M96 => ((pZ M96 11 v0 32 1).bind fun M101 => some (w1_36, M101)))))) | .inr z => some z)))
set_option maxHeartbeats 4000000 in
set_option maxRecDepth 100000 in
theorem k_X11_room (l : Launch) (b : Nat) (D : va_G) (cy : Nat → ClassId) (N : Nat) (v0 : Nat) (M : Mem) (r : Int32) (Mf : Mem) (h : fX11_room N v0 M = some (r, Mf)) : Ct l yX11_room cX11_room 3 (some .int) 11 0 0 b D cy [.ref (b + v0)] M (some (.int r)) Mf := by
  refine Ct_of (own := RX11) (by decide) rfl (Nat.le_of_ble_eq_true rfl) ?_
  intro p e s m args below meth c F hr hl hmn
  unfold fX11_room at h
  show X p l e ({ frames := 11, cells := 0, slots := 0, locals := 100 * 11 }) s m args below meth c (MQ below (Qm b D cy (some (.int r)) Mf) args s 0 0 (fun q => b ≤ q)) 3 b D cy 0 0 M 0 [(0, .ref (b + v0))] []
  refine x_aload_n F dX11_room_0 rfl 0 rfl ?_
  refine x_iconst F (v := 0) dX11_room_1 (by decide) ?_
  obtain ⟨M2, c2, h⟩ := bdS h
  refine x_putI F (ci := 11) (C := RX11) (T := TX11) (N := 45) rfl ⟨by decide, rfl⟩ inU11 tyX11_ok nmX11 0 (by decide) rfl rfl wl_845 c2 dX11_room_2 ?_
  refine x_iconst F (v := 0) dX11_room_5 (by decide) ?_
  refine x_istore_n F (lv' := [(1, .int 0), (0, .ref (b + v0))]) dX11_room_6 rfl (by decide) rfl ?_
  have L7 : ∀ (v0 : Nat) (n : Nat) (v1 : Int32) (M : Mem) (o : Mem), fX11_room_L7 N v0 n v1 M = some o → X p l e ({ frames := 11, cells := 0, slots := 0, locals := 100 * 11 }) s m args below meth c (MQ below (Qm b D cy (some (.int r)) Mf) args s 0 0 (fun q => b ≤ q)) 3 b D cy 0 0 o 34 [(0, .ref (b + v0))] [] → X p l e ({ frames := 11, cells := 0, slots := 0, locals := 100 * 11 }) s m args below meth c (MQ below (Qm b D cy (some (.int r)) Mf) args s 0 0 (fun q => b ≤ q)) 3 b D cy 0 0 M 7 [(0, .ref (b + v0)), (1, .int v1)] [] := by
    intro v0 n
    induction n with
    | zero => intro v1 M o h; exact absurd h (by rw [fX11_room_L7]; exact fun z => by cases z)
    | succ n ih =>
      intro v1 M o h hE
      rw [fX11_room_L7] at h
      refine x_iload_n F dX11_room_7 rfl 1 rfl ?_
      refine x_bipush F (v := 6) dX11_room_8 (by decide) ?_
      refine x_icmp_ge F (tgt := 34) dX11_room_10 (by decide) (fun c10 => ?_) (fun c10 => ?_)
      · rw [if_pos c10] at h
        obtain rfl := Option.some.inj h
        refine x_sub [0] rfl ?_
        exact hE
      · rw [if_neg c10] at h
        refine x_aload_n F dX11_room_13 rfl 0 rfl ?_
        obtain ⟨x14, c14, h⟩ := bdS h
        refine x_getR F (ci := 11) (C := RX11) (T := TX11) (N := 45) rfl ⟨by decide, rfl⟩ inU11 30 (by decide) (fun _ _ _ => rfl) wl_927 c14 dX11_room_14 ?_
        refine x_iload_n F dX11_room_17 rfl 1 rfl ?_
        refine x_aload_n F dX11_room_18 rfl 0 rfl ?_
        obtain ⟨x19, c19, h⟩ := bdS h
        refine x_getR F (ci := 11) (C := RX11) (T := TX11) (N := 45) rfl ⟨by decide, rfl⟩ inU11 14 (by decide) (fun _ _ _ => rfl) wl_913 c19 dX11_room_19 ?_
        refine x_bipush F (v := 11) dX11_room_22 (by decide) ?_
        refine x_iload_n F dX11_room_24 rfl 1 rfl ?_
        refine x_iadd F dX11_room_25 ?_
        obtain ⟨x26, c26, h⟩ := bdS h
        refine x_aI F c26 dX11_room_26 ?_
        obtain ⟨M27, c27, h⟩ := bdS h
        refine x_tI F c27 dX11_room_27 ?_
        refine x_iinc F (v := v1 + 1) (lv' := [(1, .int (v1 + 1)), (0, .ref (b + v0))]) dX11_room_28 1 rfl rfl (by decide) rfl ?_
        refine x_goto F (tgt := 7) dX11_room_31 (by decide) ?_
        refine x_sub [1, 0] rfl ?_
        exact ih (v1 + 1) M27 o h hE
  obtain ⟨o7, h7, h⟩ := bdS h
  refine x_sub [1, 0] rfl ?_
  refine L7 v0 N 0 M2 o7 h7 ?_
  refine x_iconst F (v := 0) dX11_room_34 (by decide) ?_
  refine x_istore_n F (lv' := [(1, .int 0), (0, .ref (b + v0))]) dX11_room_35 rfl (by decide) rfl ?_
  have L36 : ∀ (v0 : Nat) (n : Nat) (v1 : Int32) (M : Mem) (o : (Int32 × Mem) ⊕ (Int32 × Mem)), fX11_room_L36 N v0 n v1 M = some o → (∀ (w1 : Int32) (M' : Mem), o = .inl (w1, M') → X p l e ({ frames := 11, cells := 0, slots := 0, locals := 100 * 11 }) s m args below meth c (MQ below (Qm b D cy (some (.int r)) Mf) args s 0 0 (fun q => b ≤ q)) 3 b D cy 0 0 M' 59 [(0, .ref (b + v0)), (1, .int w1)] []) → (∀ (r' : Int32) (M' : Mem), o = Sum.inr (r', M') → r' = r ∧ M' = Mf) → X p l e ({ frames := 11, cells := 0, slots := 0, locals := 100 * 11 }) s m args below meth c (MQ below (Qm b D cy (some (.int r)) Mf) args s 0 0 (fun q => b ≤ q)) 3 b D cy 0 0 M 36 [(0, .ref (b + v0)), (1, .int v1)] [] := by
    intro v0 n
    induction n with
    | zero => intro v1 M o h; exact absurd h (by rw [fX11_room_L36]; exact fun z => by cases z)
    | succ n ih =>
      intro v1 M o h hE hR
      rw [fX11_room_L36] at h
      refine x_iload_n F dX11_room_36 rfl 1 rfl ?_
      refine x_aload_n F dX11_room_37 rfl 0 rfl ?_
      obtain ⟨x38, c38, h⟩ := bdS h
      refine x_getR F (ci := 11) (C := RX11) (T := TX11) (N := 45) rfl ⟨by decide, rfl⟩ inU11 14 (by decide) (fun _ _ _ => rfl) wl_913 c38 dX11_room_38 ?_
      refine x_iconst F (v := 0) dX11_room_41 (by decide) ?_
      obtain ⟨x42, c42, h⟩ := bdS h
      refine x_aI F c42 dX11_room_42 ?_
      refine x_icmp_gt F (tgt := 112) dX11_room_43 (by decide) (fun c43 => ?_) (fun c43 => ?_)
      · rw [if_pos c43] at h
        refine x_iconst F (v := (-1)) dX11_room_112 (by decide) ?_
        obtain rfl := Option.some.inj h
        obtain ⟨rfl, rfl⟩ := hR _ _ rfl
        exact x_iret F hr hl dX11_room_113
      · rw [if_neg c43] at h
        refine x_aload_n F dX11_room_46 rfl 0 rfl ?_
        refine x_iconst F (v := 0) dX11_room_47 (by decide) ?_
        refine x_iconst F (v := 0) dX11_room_48 (by decide) ?_
        refine x_iload_n F dX11_room_49 rfl 1 rfl ?_
        obtain ⟨k50, h⟩ := gdS h
        obtain ⟨⟨x50, M50⟩, c50, h⟩ := bdS h
        dsimp only at h
        refine x_callV F (As := [.int 0, .int 0, .int v1]) (rest := []) (res := (some (.int x50))) (ci := 11) (q := (RX11, TX11, 45)) rfl (by decide) k50 (k_X11_hasRoomFrom l b D cy N 8 v0 0 0 v1 M _ _ c50) wl_1145 wl_1146 wl_1147 wl_854 wl_1144 hd_X11_hasRoomFrom ⟨Nat.le_of_ble_eq_true rfl, Nat.le_of_ble_eq_true rfl⟩ ⟨Nat.le_refl _, Nat.le_refl _⟩ (Nat.le_of_ble_eq_true rfl) rfl dX11_room_50 ?_
        refine x_if_ne F (tgt := 59) dX11_room_53 (by decide) (fun c53 => ?_) (fun c53 => ?_)
        · rw [if_neg c53] at h
          obtain rfl := Option.some.inj h
          exact hE _ _ rfl
        · rw [if_pos c53] at h
          refine x_goto F (tgt := 106) dX11_room_56 (by decide) ?_
          refine x_iinc F (v := v1 + 1) (lv' := [(1, .int (v1 + 1)), (0, .ref (b + v0))]) dX11_room_106 1 rfl rfl (by decide) rfl ?_
          refine x_goto F (tgt := 36) dX11_room_109 (by decide) ?_
          refine x_sub [1, 0] rfl ?_
          exact ih (v1 + 1) M50 o h hE hR
  obtain ⟨o36, h36, h⟩ := bdS h
  refine x_sub [1, 0] rfl ?_
  refine L36 v0 N 0 o7 o36 h36 (fun w1_36 M36 e => ?_) (fun r' M' e => ?_)
  · subst e
    dsimp only at h
    refine x_iconst F (v := 0) dX11_room_59 (by decide) ?_
    refine x_istore_n F (lv' := [(2, .int 0), (0, .ref (b + v0)), (1, .int w1_36)]) dX11_room_60 rfl (by decide) rfl ?_
    have L61 : ∀ (v0 : Nat) (v1 : Int32) (n : Nat) (v2 : Int32) (M : Mem) (o : Mem), fX11_room_L61 N v0 v1 n v2 M = some o → X p l e ({ frames := 11, cells := 0, slots := 0, locals := 100 * 11 }) s m args below meth c (MQ below (Qm b D cy (some (.int r)) Mf) args s 0 0 (fun q => b ≤ q)) 3 b D cy 0 0 o 89 [(0, .ref (b + v0)), (1, .int v1)] [] → X p l e ({ frames := 11, cells := 0, slots := 0, locals := 100 * 11 }) s m args below meth c (MQ below (Qm b D cy (some (.int r)) Mf) args s 0 0 (fun q => b ≤ q)) 3 b D cy 0 0 M 61 [(0, .ref (b + v0)), (1, .int v1), (2, .int v2)] [] := by
      intro v0 v1 n
      induction n with
      | zero => intro v2 M o h; exact absurd h (by rw [fX11_room_L61]; exact fun z => by cases z)
      | succ n ih =>
        intro v2 M o h hE
        rw [fX11_room_L61] at h
        refine x_iload_n F dX11_room_61 rfl 2 rfl ?_
        refine x_aload_n F dX11_room_62 rfl 0 rfl ?_
        obtain ⟨x63, c63, h⟩ := bdS h
        refine x_getR F (ci := 11) (C := RX11) (T := TX11) (N := 45) rfl ⟨by decide, rfl⟩ inU11 14 (by decide) (fun _ _ _ => rfl) wl_913 c63 dX11_room_63 ?_
        refine x_iconst F (v := 2) dX11_room_66 (by decide) ?_
        obtain ⟨x67, c67, h⟩ := bdS h
        refine x_aI F c67 dX11_room_67 ?_
        refine x_icmp_ge F (tgt := 89) dX11_room_68 (by decide) (fun c68 => ?_) (fun c68 => ?_)
        · rw [if_pos c68] at h
          obtain rfl := Option.some.inj h
          refine x_sub [0, 1] rfl ?_
          exact hE
        · rw [if_neg c68] at h
          refine x_aload_n F dX11_room_71 rfl 0 rfl ?_
          obtain ⟨x72, c72, h⟩ := bdS h
          refine x_getR F (ci := 11) (C := RX11) (T := TX11) (N := 45) rfl ⟨by decide, rfl⟩ inU11 29 (by decide) (fun _ _ _ => rfl) wl_926 c72 dX11_room_72 ?_
          refine x_iload_n F dX11_room_75 rfl 2 rfl ?_
          refine x_aload_n F dX11_room_76 rfl 0 rfl ?_
          obtain ⟨x77, c77, h⟩ := bdS h
          refine x_getR F (ci := 11) (C := RX11) (T := TX11) (N := 45) rfl ⟨by decide, rfl⟩ inU11 28 (by decide) (fun _ _ _ => rfl) wl_925 c77 dX11_room_77 ?_
          refine x_iload_n F dX11_room_80 rfl 2 rfl ?_
          obtain ⟨x81, c81, h⟩ := bdS h
          refine x_aI F c81 dX11_room_81 ?_
          obtain ⟨M82, c82, h⟩ := bdS h
          refine x_tI F c82 dX11_room_82 ?_
          refine x_iinc F (v := v2 + 1) (lv' := [(2, .int (v2 + 1)), (0, .ref (b + v0)), (1, .int v1)]) dX11_room_83 2 rfl rfl (by decide) rfl ?_
          refine x_goto F (tgt := 61) dX11_room_86 (by decide) ?_
          refine x_sub [1, 2, 0] rfl ?_
          exact ih (v2 + 1) M82 o h hE
    obtain ⟨o61, h61, h⟩ := bdS h
    refine x_sub [1, 2, 0] rfl ?_
    refine L61 v0 w1_36 N 0 M36 o61 h61 ?_
    refine x_aload_n F dX11_room_89 rfl 0 rfl ?_
    refine x_aload_n F dX11_room_90 rfl 0 rfl ?_
    obtain ⟨x91, c91, h⟩ := bdS h
    refine x_getR F (ci := 11) (C := RX11) (T := TX11) (N := 45) rfl ⟨by decide, rfl⟩ inU11 14 (by decide) (fun _ _ _ => rfl) wl_913 c91 dX11_room_91 ?_
    refine x_iconst F (v := 2) dX11_room_94 (by decide) ?_
    obtain ⟨x95, c95, h⟩ := bdS h
    refine x_aI F c95 dX11_room_95 ?_
    obtain ⟨M96, c96, h⟩ := bdS h
    refine x_putI F (ci := 11) (C := RX11) (T := TX11) (N := 45) rfl ⟨by decide, rfl⟩ inU11 tyX11_ok nmX11 31 (by decide) rfl rfl wl_1149 c96 dX11_room_96 ?_
    refine x_aload_n F dX11_room_99 rfl 0 rfl ?_
    refine x_iconst F (v := 1) dX11_room_100 (by decide) ?_
    obtain ⟨M101, c101, h⟩ := bdS h
    refine x_putZ F (ci := 11) (C := RX11) (T := TX11) (N := 45) rfl ⟨by decide, rfl⟩ inU11 tyX11_ok nmX11 32 (by decide) rfl rfl wl_1150 c101 dX11_room_101 ?_
    refine x_iload_n F dX11_room_104 rfl 1 rfl ?_
    obtain ⟨rfl, rfl⟩ := retS h
    exact x_iret F hr hl dX11_room_105
  · subst e
    try dsimp only at h
    obtain ⟨rfl, rfl⟩ := retS h; exact ⟨rfl, rfl⟩
theorem dX11_roomOf_0 : decode cX11_roomOf 0 = .ok (.aload_n 0, 1) := by decide +kernel
theorem dX11_roomOf_1 : decode cX11_roomOf 1 = .ok (.iconst 0, 1) := by decide +kernel
theorem dX11_roomOf_2 : decode cX11_roomOf 2 = .ok (.putfield 1, 3) := by decide +kernel
theorem dX11_roomOf_5 : decode cX11_roomOf 5 = .ok (.aload_n 0, 1) := by decide +kernel
theorem dX11_roomOf_6 : decode cX11_roomOf 6 = .ok (.getfield 333, 3) := by decide +kernel
theorem dX11_roomOf_9 : decode cX11_roomOf 9 = .ok (.ifCond .eq 26, 3) := by decide +kernel
theorem dX11_roomOf_12 : decode cX11_roomOf 12 = .ok (.iload_n 1, 1) := by decide +kernel
theorem dX11_roomOf_13 : decode cX11_roomOf 13 = .ok (.iconst 0, 1) := by decide +kernel
theorem dX11_roomOf_14 : decode cX11_roomOf 14 = .ok (.aload_n 0, 1) := by decide +kernel
theorem dX11_roomOf_15 : decode cX11_roomOf 15 = .ok (.getfield 330, 3) := by decide +kernel
theorem dX11_roomOf_18 : decode cX11_roomOf 18 = .ok (.iconst 1, 1) := by decide +kernel
theorem dX11_roomOf_19 : decode cX11_roomOf 19 = .ok (.isub, 1) := by decide +kernel
theorem dX11_roomOf_20 : decode cX11_roomOf 20 = .ok (.invokestatic 75, 3) := by decide +kernel
theorem dX11_roomOf_23 : decode cX11_roomOf 23 = .ok (.ifCond .eq 12, 3) := by decide +kernel
theorem dX11_roomOf_26 : decode cX11_roomOf 26 = .ok (.aload_n 0, 1) := by decide +kernel
theorem dX11_roomOf_27 : decode cX11_roomOf 27 = .ok (.getfield 136, 3) := by decide +kernel
theorem dX11_roomOf_30 : decode cX11_roomOf 30 = .ok (.iload_n 1, 1) := by decide +kernel
theorem dX11_roomOf_31 : decode cX11_roomOf 31 = .ok (.iaload, 1) := by decide +kernel
theorem dX11_roomOf_32 : decode cX11_roomOf 32 = .ok (.goto 4, 3) := by decide +kernel
theorem dX11_roomOf_35 : decode cX11_roomOf 35 = .ok (.iconst (-1), 1) := by decide +kernel
theorem dX11_roomOf_36 : decode cX11_roomOf 36 = .ok (.ireturn, 1) := by decide +kernel
def fX11_roomOf (N : Nat) (v0 : Nat) (v1 : Int32) (M : Mem) : Option (Int32 × Mem) := ((pI M 11 v0 0 0).bind fun M2 => ((fI M2 11 v0 32).bind fun x6 => (if x6 = 0 then some ((-1), M2) else ((fI M2 11 v0 31).bind fun x15 => ((fX11_isIn N v1 0 (x15 - 1) M2).bind fun (x20, M20) => (if x20 = 0 then some ((-1), M20) else ((fR M20 11 v0 29).bind fun x27 => ((aI M20 x27 v1).bind fun x31 => some (x31, M20)))))))))
set_option maxHeartbeats 4000000 in
set_option maxRecDepth 100000 in
theorem k_X11_roomOf (l : Launch) (b : Nat) (D : va_G) (cy : Nat → ClassId) (N : Nat) (v0 : Nat) (v1 : Int32) (M : Mem) (r : Int32) (Mf : Mem) (h : fX11_roomOf N v0 v1 M = some (r, Mf)) : Ct l yX11_roomOf cX11_roomOf 2 (some .int) 2 0 0 b D cy [.ref (b + v0), .int v1] M (some (.int r)) Mf := by
  refine Ct_of (own := RX11) (by decide) rfl (Nat.le_of_ble_eq_true rfl) ?_
  intro p e s m args below meth c F hr hl hmn
  unfold fX11_roomOf at h
  show X p l e ({ frames := 2, cells := 0, slots := 0, locals := 100 * 2 }) s m args below meth c (MQ below (Qm b D cy (some (.int r)) Mf) args s 0 0 (fun q => b ≤ q)) 2 b D cy 0 0 M 0 [(0, .ref (b + v0)), (1, .int v1)] []
  refine x_aload_n F dX11_roomOf_0 rfl 0 rfl ?_
  refine x_iconst F (v := 0) dX11_roomOf_1 (by decide) ?_
  obtain ⟨M2, c2, h⟩ := bdS h
  refine x_putI F (ci := 11) (C := RX11) (T := TX11) (N := 45) rfl ⟨by decide, rfl⟩ inU11 tyX11_ok nmX11 0 (by decide) rfl rfl wl_845 c2 dX11_roomOf_2 ?_
  refine x_aload_n F dX11_roomOf_5 rfl 0 rfl ?_
  obtain ⟨x6, c6, h⟩ := bdS h
  refine x_getI F (ci := 11) (C := RX11) (T := TX11) (N := 45) rfl ⟨by decide, rfl⟩ inU11 32 (by decide) (fun _ _ _ => rfl) wl_1150 c6 dX11_roomOf_6 ?_
  refine x_if_eq F (tgt := 35) dX11_roomOf_9 (by decide) (fun c9 => ?_) (fun c9 => ?_)
  · rw [if_pos c9] at h
    refine x_iconst F (v := (-1)) dX11_roomOf_35 (by decide) ?_
    obtain ⟨rfl, rfl⟩ := retS h
    exact x_iret F hr hl dX11_roomOf_36
  · rw [if_neg c9] at h
    refine x_iload_n F dX11_roomOf_12 rfl 1 rfl ?_
    refine x_iconst F (v := 0) dX11_roomOf_13 (by decide) ?_
    refine x_aload_n F dX11_roomOf_14 rfl 0 rfl ?_
    obtain ⟨x15, c15, h⟩ := bdS h
    refine x_getI F (ci := 11) (C := RX11) (T := TX11) (N := 45) rfl ⟨by decide, rfl⟩ inU11 31 (by decide) (fun _ _ _ => rfl) wl_1149 c15 dX11_roomOf_15 ?_
    refine x_iconst F (v := 1) dX11_roomOf_18 (by decide) ?_
    refine x_isub F dX11_roomOf_19 ?_
    obtain ⟨⟨x20, M20⟩, c20, h⟩ := bdS h
    dsimp only at h
    refine x_callS F (As := [.int v1, .int 0, .int (x15 - 1)]) (rest := []) (res := (some (.int x20))) (k_X11_isIn l b D cy N v1 0 (x15 - 1) M2 _ _ c20) wl_898 wl_899 wl_854 wl_857 (hd_X11_isIn).2 ⟨Nat.le_of_ble_eq_true rfl, Nat.le_of_ble_eq_true rfl⟩ ⟨Nat.le_refl _, Nat.le_refl _⟩ (Nat.le_of_ble_eq_true rfl) rfl dX11_roomOf_20 ?_
    refine x_if_eq F (tgt := 35) dX11_roomOf_23 (by decide) (fun c23 => ?_) (fun c23 => ?_)
    · rw [if_pos c23] at h
      refine x_iconst F (v := (-1)) dX11_roomOf_35 (by decide) ?_
      obtain ⟨rfl, rfl⟩ := retS h
      exact x_iret F hr hl dX11_roomOf_36
    · rw [if_neg c23] at h
      refine x_aload_n F dX11_roomOf_26 rfl 0 rfl ?_
      obtain ⟨x27, c27, h⟩ := bdS h
      refine x_getR F (ci := 11) (C := RX11) (T := TX11) (N := 45) rfl ⟨by decide, rfl⟩ inU11 29 (by decide) (fun _ _ _ => rfl) wl_926 c27 dX11_roomOf_27 ?_
      refine x_iload_n F dX11_roomOf_30 rfl 1 rfl ?_
      obtain ⟨x31, c31, h⟩ := bdS h
      refine x_aI F c31 dX11_roomOf_31 ?_
      refine x_goto F (tgt := 36) dX11_roomOf_32 (by decide) ?_
      obtain ⟨rfl, rfl⟩ := retS h
      exact x_iret F hr hl dX11_roomOf_36
theorem dX11_bears_0 : decode cX11_bears 0 = .ok (.aload_n 0, 1) := by decide +kernel
theorem dX11_bears_1 : decode cX11_bears 1 = .ok (.iconst 0, 1) := by decide +kernel
theorem dX11_bears_2 : decode cX11_bears 2 = .ok (.putfield 1, 3) := by decide +kernel
theorem dX11_bears_5 : decode cX11_bears 5 = .ok (.aload_n 0, 1) := by decide +kernel
theorem dX11_bears_6 : decode cX11_bears 6 = .ok (.iload_n 1, 1) := by decide +kernel
theorem dX11_bears_7 : decode cX11_bears 7 = .ok (.invokevirtual 258, 3) := by decide +kernel
theorem dX11_bears_10 : decode cX11_bears 10 = .ok (.ifCond .ne 5, 3) := by decide +kernel
theorem dX11_bears_13 : decode cX11_bears 13 = .ok (.iconst (-1), 1) := by decide +kernel
theorem dX11_bears_14 : decode cX11_bears 14 = .ok (.ireturn, 1) := by decide +kernel
theorem dX11_bears_15 : decode cX11_bears 15 = .ok (.aload_n 0, 1) := by decide +kernel
theorem dX11_bears_16 : decode cX11_bears 16 = .ok (.iload_n 1, 1) := by decide +kernel
theorem dX11_bears_17 : decode cX11_bears 17 = .ok (.invokevirtual 216, 3) := by decide +kernel
theorem dX11_bears_20 : decode cX11_bears 20 = .ok (.iconst 1, 1) := by decide +kernel
theorem dX11_bears_21 : decode cX11_bears 21 = .ok (.iadd, 1) := by decide +kernel
theorem dX11_bears_22 : decode cX11_bears 22 = .ok (.istore_n 2, 1) := by decide +kernel
theorem dX11_bears_23 : decode cX11_bears 23 = .ok (.iconst 0, 1) := by decide +kernel
theorem dX11_bears_24 : decode cX11_bears 24 = .ok (.istore_n 3, 1) := by decide +kernel
theorem dX11_bears_25 : decode cX11_bears 25 = .ok (.iload_n 3, 1) := by decide +kernel
theorem dX11_bears_26 : decode cX11_bears 26 = .ok (.aload_n 0, 1) := by decide +kernel
theorem dX11_bears_27 : decode cX11_bears 27 = .ok (.getfield 98, 3) := by decide +kernel
theorem dX11_bears_30 : decode cX11_bears 30 = .ok (.iconst 2, 1) := by decide +kernel
theorem dX11_bears_31 : decode cX11_bears 31 = .ok (.iaload, 1) := by decide +kernel
theorem dX11_bears_32 : decode cX11_bears 32 = .ok (.if_icmp .ge 81, 3) := by decide +kernel
theorem dX11_bears_35 : decode cX11_bears 35 = .ok (.iload_n 3, 1) := by decide +kernel
theorem dX11_bears_36 : decode cX11_bears 36 = .ok (.iload_n 1, 1) := by decide +kernel
theorem dX11_bears_37 : decode cX11_bears 37 = .ok (.if_icmp .eq 70, 3) := by decide +kernel
theorem dX11_bears_40 : decode cX11_bears 40 = .ok (.aload_n 0, 1) := by decide +kernel
theorem dX11_bears_41 : decode cX11_bears 41 = .ok (.iload_n 3, 1) := by decide +kernel
theorem dX11_bears_42 : decode cX11_bears 42 = .ok (.invokevirtual 216, 3) := by decide +kernel
theorem dX11_bears_45 : decode cX11_bears 45 = .ok (.aload_n 0, 1) := by decide +kernel
theorem dX11_bears_46 : decode cX11_bears 46 = .ok (.iload_n 1, 1) := by decide +kernel
theorem dX11_bears_47 : decode cX11_bears 47 = .ok (.invokevirtual 216, 3) := by decide +kernel
theorem dX11_bears_50 : decode cX11_bears 50 = .ok (.if_icmp .eq 6, 3) := by decide +kernel
theorem dX11_bears_53 : decode cX11_bears 53 = .ok (.goto 54, 3) := by decide +kernel
theorem dX11_bears_56 : decode cX11_bears 56 = .ok (.iconst 0, 1) := by decide +kernel
theorem dX11_bears_57 : decode cX11_bears 57 = .ok (.istore 4, 2) := by decide +kernel
theorem dX11_bears_59 : decode cX11_bears 59 = .ok (.iconst 0, 1) := by decide +kernel
theorem dX11_bears_60 : decode cX11_bears 60 = .ok (.istore 5, 2) := by decide +kernel
theorem dX11_bears_62 : decode cX11_bears 62 = .ok (.iload 5, 2) := by decide +kernel
theorem dX11_bears_64 : decode cX11_bears 64 = .ok (.aload_n 0, 1) := by decide +kernel
theorem dX11_bears_65 : decode cX11_bears 65 = .ok (.iload_n 1, 1) := by decide +kernel
theorem dX11_bears_66 : decode cX11_bears 66 = .ok (.invokevirtual 216, 3) := by decide +kernel
theorem dX11_bears_69 : decode cX11_bears 69 = .ok (.if_icmp .ge 29, 3) := by decide +kernel
theorem dX11_bears_72 : decode cX11_bears 72 = .ok (.aload_n 0, 1) := by decide +kernel
theorem dX11_bears_73 : decode cX11_bears 73 = .ok (.iload_n 1, 1) := by decide +kernel
theorem dX11_bears_74 : decode cX11_bears 74 = .ok (.iload 5, 2) := by decide +kernel
theorem dX11_bears_76 : decode cX11_bears 76 = .ok (.invokevirtual 223, 3) := by decide +kernel
theorem dX11_bears_79 : decode cX11_bears 79 = .ok (.aload_n 0, 1) := by decide +kernel
theorem dX11_bears_80 : decode cX11_bears 80 = .ok (.iload_n 3, 1) := by decide +kernel
theorem dX11_bears_81 : decode cX11_bears 81 = .ok (.iload 5, 2) := by decide +kernel
theorem dX11_bears_83 : decode cX11_bears 83 = .ok (.invokevirtual 223, 3) := by decide +kernel
theorem dX11_bears_86 : decode cX11_bears 86 = .ok (.if_icmp .eq 6, 3) := by decide +kernel
theorem dX11_bears_89 : decode cX11_bears 89 = .ok (.iinc 4 1, 3) := by decide +kernel
theorem dX11_bears_92 : decode cX11_bears 92 = .ok (.iinc 5 1, 3) := by decide +kernel
theorem dX11_bears_95 : decode cX11_bears 95 = .ok (.goto (-33), 3) := by decide +kernel
theorem dX11_bears_98 : decode cX11_bears 98 = .ok (.iload 4, 2) := by decide +kernel
theorem dX11_bears_100 : decode cX11_bears 100 = .ok (.iload_n 2, 1) := by decide +kernel
theorem dX11_bears_101 : decode cX11_bears 101 = .ok (.if_icmp .ge 6, 3) := by decide +kernel
theorem dX11_bears_104 : decode cX11_bears 104 = .ok (.iload 4, 2) := by decide +kernel
theorem dX11_bears_106 : decode cX11_bears 106 = .ok (.istore_n 2, 1) := by decide +kernel
theorem dX11_bears_107 : decode cX11_bears 107 = .ok (.iinc 3 1, 3) := by decide +kernel
theorem dX11_bears_110 : decode cX11_bears 110 = .ok (.goto (-85), 3) := by decide +kernel
theorem dX11_bears_113 : decode cX11_bears 113 = .ok (.iload_n 2, 1) := by decide +kernel
theorem dX11_bears_114 : decode cX11_bears 114 = .ok (.iconst 1, 1) := by decide +kernel
theorem dX11_bears_115 : decode cX11_bears 115 = .ok (.isub, 1) := by decide +kernel
theorem dX11_bears_116 : decode cX11_bears 116 = .ok (.ireturn, 1) := by decide +kernel
def fX11_bears_L62 (N : Nat) (v0 : Nat) (v1 : Int32) (v2 : Int32) (v3 : Int32) : Nat → Int32 → Int32 → Mem → Option (Int32 × Mem)
  | 0, _, _, _ => none
  | n + 1, v4, v5, M => (if mK M v0 = 12 then ((fX11_longOf N v0 v1 M).bind fun (x66, M66) => (if x66 ≤ v5 then some (v4, M66) else (if mK M66 v0 = 12 then ((fX11_signOf N v0 v1 v5 M66).bind fun (x76, M76) => (if mK M76 v0 = 12 then ((fX11_signOf N v0 v3 v5 M76).bind fun (x83, M83) => (if x76 = x83 then fX11_bears_L62 N v0 v1 v2 v3 n v4 (v5 + 1) M83 else fX11_bears_L62 N v0 v1 v2 v3 n (v4 + 1) (v5 + 1) M83)) else none)) else none))) else none)
def fX11_bears_L25 (N : Nat) (v0 : Nat) (v1 : Int32) : Nat → Int32 → Int32 → Mem → Option (Int32 × Mem)
  | 0, _, _, _ => none
  | n + 1, v2, v3, M => ((fR M 11 v0 14).bind fun x27 => ((aI M x27 2).bind fun x31 => (if x31 ≤ v3 then some (v2 - 1, M) else (if v3 = v1 then fX11_bears_L25 N v0 v1 n v2 (v3 + 1) M else (if mK M v0 = 12 then ((fX11_longOf N v0 v3 M).bind fun (x42, M42) => (if mK M42 v0 = 12 then ((fX11_longOf N v0 v1 M42).bind fun (x47, M47) => (if x42 = x47 then ((fX11_bears_L62 N v0 v1 v2 v3 N 0 0 M47).bind fun o62 => match o62 with | (w4_62, M62) => (if v2 ≤ w4_62 then fX11_bears_L25 N v0 v1 n v2 (v3 + 1) M62 else fX11_bears_L25 N v0 v1 n w4_62 (v3 + 1) M62)) else fX11_bears_L25 N v0 v1 n v2 (v3 + 1) M47)) else none)) else none)))))
def fX11_bears (N : Nat) (v0 : Nat) (v1 : Int32) (M : Mem) : Option (Int32 × Mem) := ((pI M 11 v0 0 0).bind fun M2 => (if mK M2 v0 = 12 then ((fX11_isLaw N v0 v1 M2).bind fun (x7, M7) => (if x7 = 0 then some ((-1), M7) else (if mK M7 v0 = 12 then ((fX11_longOf N v0 v1 M7).bind fun (x17, M17) => ((fX11_bears_L25 N v0 v1 N (x17 + 1) 0 M17).bind fun o25 => some o25)) else none))) else none))
set_option maxHeartbeats 4000000 in
set_option maxRecDepth 100000 in
theorem k_X11_bears (l : Launch) (b : Nat) (D : va_G) (cy : Nat → ClassId) (N : Nat) (v0 : Nat) (v1 : Int32) (M : Mem) (r : Int32) (Mf : Mem) (h : fX11_bears N v0 v1 M = some (r, Mf)) : Ct l yX11_bears cX11_bears 6 (some .int) 3 0 0 b D cy [.ref (b + v0), .int v1] M (some (.int r)) Mf := by
  refine Ct_of (own := RX11) (by decide) rfl (Nat.le_of_ble_eq_true rfl) ?_
  intro p e s m args below meth c F hr hl hmn
  unfold fX11_bears at h
  show X p l e ({ frames := 3, cells := 0, slots := 0, locals := 100 * 3 }) s m args below meth c (MQ below (Qm b D cy (some (.int r)) Mf) args s 0 0 (fun q => b ≤ q)) 6 b D cy 0 0 M 0 [(0, .ref (b + v0)), (1, .int v1)] []
  refine x_aload_n F dX11_bears_0 rfl 0 rfl ?_
  refine x_iconst F (v := 0) dX11_bears_1 (by decide) ?_
  obtain ⟨M2, c2, h⟩ := bdS h
  refine x_putI F (ci := 11) (C := RX11) (T := TX11) (N := 45) rfl ⟨by decide, rfl⟩ inU11 tyX11_ok nmX11 0 (by decide) rfl rfl wl_845 c2 dX11_bears_2 ?_
  refine x_aload_n F dX11_bears_5 rfl 0 rfl ?_
  refine x_iload_n F dX11_bears_6 rfl 1 rfl ?_
  obtain ⟨k7, h⟩ := gdS h
  obtain ⟨⟨x7, M7⟩, c7, h⟩ := bdS h
  dsimp only at h
  refine x_callV F (As := [.int v1]) (rest := []) (res := (some (.int x7))) (ci := 11) (q := (RX11, TX11, 45)) rfl (by decide) k7 (k_X11_isLaw l b D cy N v0 v1 M2 _ _ c7) wl_1054 wl_1055 wl_1056 wl_854 wl_1000 hd_X11_isLaw ⟨Nat.le_of_ble_eq_true rfl, Nat.le_of_ble_eq_true rfl⟩ ⟨Nat.le_refl _, Nat.le_refl _⟩ (Nat.le_of_ble_eq_true rfl) rfl dX11_bears_7 ?_
  refine x_if_ne F (tgt := 15) dX11_bears_10 (by decide) (fun c10 => ?_) (fun c10 => ?_)
  · rw [if_neg c10] at h
    refine x_aload_n F dX11_bears_15 rfl 0 rfl ?_
    refine x_iload_n F dX11_bears_16 rfl 1 rfl ?_
    obtain ⟨k17, h⟩ := gdS h
    obtain ⟨⟨x17, M17⟩, c17, h⟩ := bdS h
    dsimp only at h
    refine x_callV F (As := [.int v1]) (rest := []) (res := (some (.int x17))) (ci := 11) (q := (RX11, TX11, 45)) rfl (by decide) k17 (k_X11_longOf l b D cy N v0 v1 M7 _ _ c17) wl_1005 wl_1006 wl_1007 wl_854 wl_1003 hd_X11_longOf ⟨Nat.le_of_ble_eq_true rfl, Nat.le_of_ble_eq_true rfl⟩ ⟨Nat.le_refl _, Nat.le_refl _⟩ (Nat.le_of_ble_eq_true rfl) rfl dX11_bears_17 ?_
    refine x_iconst F (v := 1) dX11_bears_20 (by decide) ?_
    refine x_iadd F dX11_bears_21 ?_
    refine x_istore_n F (lv' := [(2, .int (x17 + 1)), (0, .ref (b + v0)), (1, .int v1)]) dX11_bears_22 rfl (by decide) rfl ?_
    refine x_iconst F (v := 0) dX11_bears_23 (by decide) ?_
    refine x_istore_n F (lv' := [(3, .int 0), (2, .int (x17 + 1)), (0, .ref (b + v0)), (1, .int v1)]) dX11_bears_24 rfl (by decide) rfl ?_
    have L25 : ∀ (v0 : Nat) (v1 : Int32) (n : Nat) (v2 : Int32) (v3 : Int32) (M : Mem) (o : Int32 × Mem), fX11_bears_L25 N v0 v1 n v2 v3 M = some o → (∀ (r' : Int32) (M' : Mem), o = (r', M') → r' = r ∧ M' = Mf) → X p l e ({ frames := 3, cells := 0, slots := 0, locals := 100 * 3 }) s m args below meth c (MQ below (Qm b D cy (some (.int r)) Mf) args s 0 0 (fun q => b ≤ q)) 6 b D cy 0 0 M 25 [(0, .ref (b + v0)), (1, .int v1), (2, .int v2), (3, .int v3)] [] := by
      intro v0 v1 n
      induction n with
      | zero => intro v2 v3 M o h; exact absurd h (by rw [fX11_bears_L25]; exact fun z => by cases z)
      | succ n ih =>
        intro v2 v3 M o h hR
        rw [fX11_bears_L25] at h
        refine x_iload_n F dX11_bears_25 rfl 3 rfl ?_
        refine x_aload_n F dX11_bears_26 rfl 0 rfl ?_
        obtain ⟨x27, c27, h⟩ := bdS h
        refine x_getR F (ci := 11) (C := RX11) (T := TX11) (N := 45) rfl ⟨by decide, rfl⟩ inU11 14 (by decide) (fun _ _ _ => rfl) wl_913 c27 dX11_bears_27 ?_
        refine x_iconst F (v := 2) dX11_bears_30 (by decide) ?_
        obtain ⟨x31, c31, h⟩ := bdS h
        refine x_aI F c31 dX11_bears_31 ?_
        refine x_icmp_ge F (tgt := 113) dX11_bears_32 (by decide) (fun c32 => ?_) (fun c32 => ?_)
        · rw [if_pos c32] at h
          refine x_iload_n F dX11_bears_113 rfl 2 rfl ?_
          refine x_iconst F (v := 1) dX11_bears_114 (by decide) ?_
          refine x_isub F dX11_bears_115 ?_
          obtain rfl := Option.some.inj h
          obtain ⟨rfl, rfl⟩ := hR _ _ rfl
          exact x_iret F hr hl dX11_bears_116
        · rw [if_neg c32] at h
          refine x_iload_n F dX11_bears_35 rfl 3 rfl ?_
          refine x_iload_n F dX11_bears_36 rfl 1 rfl ?_
          refine x_icmp_eq F (tgt := 107) dX11_bears_37 (by decide) (fun c37 => ?_) (fun c37 => ?_)
          · rw [if_pos c37] at h
            refine x_iinc F (v := v3 + 1) (lv' := [(3, .int (v3 + 1)), (0, .ref (b + v0)), (1, .int v1), (2, .int v2)]) dX11_bears_107 3 rfl rfl (by decide) rfl ?_
            refine x_goto F (tgt := 25) dX11_bears_110 (by decide) ?_
            refine x_sub [1, 2, 3, 0] rfl ?_
            exact ih v2 (v3 + 1) M o h hR
          · rw [if_neg c37] at h
            refine x_aload_n F dX11_bears_40 rfl 0 rfl ?_
            refine x_iload_n F dX11_bears_41 rfl 3 rfl ?_
            obtain ⟨k42, h⟩ := gdS h
            obtain ⟨⟨x42, M42⟩, c42, h⟩ := bdS h
            dsimp only at h
            refine x_callV F (As := [.int v3]) (rest := []) (res := (some (.int x42))) (ci := 11) (q := (RX11, TX11, 45)) rfl (by decide) k42 (k_X11_longOf l b D cy N v0 v3 M _ _ c42) wl_1005 wl_1006 wl_1007 wl_854 wl_1003 hd_X11_longOf ⟨Nat.le_of_ble_eq_true rfl, Nat.le_of_ble_eq_true rfl⟩ ⟨Nat.le_refl _, Nat.le_refl _⟩ (Nat.le_of_ble_eq_true rfl) rfl dX11_bears_42 ?_
            refine x_aload_n F dX11_bears_45 rfl 0 rfl ?_
            refine x_iload_n F dX11_bears_46 rfl 1 rfl ?_
            obtain ⟨k47, h⟩ := gdS h
            obtain ⟨⟨x47, M47⟩, c47, h⟩ := bdS h
            dsimp only at h
            refine x_callV F (As := [.int v1]) (rest := [.int x42]) (res := (some (.int x47))) (ci := 11) (q := (RX11, TX11, 45)) rfl (by decide) k47 (k_X11_longOf l b D cy N v0 v1 M42 _ _ c47) wl_1005 wl_1006 wl_1007 wl_854 wl_1003 hd_X11_longOf ⟨Nat.le_of_ble_eq_true rfl, Nat.le_of_ble_eq_true rfl⟩ ⟨Nat.le_refl _, Nat.le_refl _⟩ (Nat.le_of_ble_eq_true rfl) rfl dX11_bears_47 ?_
            refine x_icmp_eq F (tgt := 56) dX11_bears_50 (by decide) (fun c50 => ?_) (fun c50 => ?_)
            · rw [if_pos c50] at h
              refine x_iconst F (v := 0) dX11_bears_56 (by decide) ?_
              refine x_istore F (lv' := [(4, .int 0), (0, .ref (b + v0)), (1, .int v1), (2, .int v2), (3, .int v3)]) dX11_bears_57 (by decide) rfl ?_
              refine x_iconst F (v := 0) dX11_bears_59 (by decide) ?_
              refine x_istore F (lv' := [(5, .int 0), (4, .int 0), (0, .ref (b + v0)), (1, .int v1), (2, .int v2), (3, .int v3)]) dX11_bears_60 (by decide) rfl ?_
              have L62 : ∀ (v0 : Nat) (v1 : Int32) (v2 : Int32) (v3 : Int32) (n : Nat) (v4 : Int32) (v5 : Int32) (M : Mem) (o : Int32 × Mem), fX11_bears_L62 N v0 v1 v2 v3 n v4 v5 M = some o → (∀ (w4 : Int32) (M' : Mem), o = (w4, M') → X p l e ({ frames := 3, cells := 0, slots := 0, locals := 100 * 3 }) s m args below meth c (MQ below (Qm b D cy (some (.int r)) Mf) args s 0 0 (fun q => b ≤ q)) 6 b D cy 0 0 M' 98 [(0, .ref (b + v0)), (1, .int v1), (2, .int v2), (3, .int v3), (4, .int w4)] []) → X p l e ({ frames := 3, cells := 0, slots := 0, locals := 100 * 3 }) s m args below meth c (MQ below (Qm b D cy (some (.int r)) Mf) args s 0 0 (fun q => b ≤ q)) 6 b D cy 0 0 M 62 [(0, .ref (b + v0)), (1, .int v1), (2, .int v2), (3, .int v3), (4, .int v4), (5, .int v5)] [] := by
                intro v0 v1 v2 v3 n
                induction n with
                | zero => intro v4 v5 M o h; exact absurd h (by rw [fX11_bears_L62]; exact fun z => by cases z)
                | succ n ih =>
                  intro v4 v5 M o h hE
                  rw [fX11_bears_L62] at h
                  refine x_iload F dX11_bears_62 5 rfl ?_
                  refine x_aload_n F dX11_bears_64 rfl 0 rfl ?_
                  refine x_iload_n F dX11_bears_65 rfl 1 rfl ?_
                  obtain ⟨k66, h⟩ := gdS h
                  obtain ⟨⟨x66, M66⟩, c66, h⟩ := bdS h
                  dsimp only at h
                  refine x_callV F (As := [.int v1]) (rest := [.int v5]) (res := (some (.int x66))) (ci := 11) (q := (RX11, TX11, 45)) rfl (by decide) k66 (k_X11_longOf l b D cy N v0 v1 M _ _ c66) wl_1005 wl_1006 wl_1007 wl_854 wl_1003 hd_X11_longOf ⟨Nat.le_of_ble_eq_true rfl, Nat.le_of_ble_eq_true rfl⟩ ⟨Nat.le_refl _, Nat.le_refl _⟩ (Nat.le_of_ble_eq_true rfl) rfl dX11_bears_66 ?_
                  refine x_icmp_ge F (tgt := 98) dX11_bears_69 (by decide) (fun c69 => ?_) (fun c69 => ?_)
                  · rw [if_pos c69] at h
                    obtain rfl := Option.some.inj h
                    refine x_sub [0, 1, 2, 3, 4] rfl ?_
                    exact hE _ _ rfl
                  · rw [if_neg c69] at h
                    refine x_aload_n F dX11_bears_72 rfl 0 rfl ?_
                    refine x_iload_n F dX11_bears_73 rfl 1 rfl ?_
                    refine x_iload F dX11_bears_74 5 rfl ?_
                    obtain ⟨k76, h⟩ := gdS h
                    obtain ⟨⟨x76, M76⟩, c76, h⟩ := bdS h
                    dsimp only at h
                    refine x_callV F (As := [.int v1, .int v5]) (rest := []) (res := (some (.int x76))) (ci := 11) (q := (RX11, TX11, 45)) rfl (by decide) k76 (k_X11_signOf l b D cy N v0 v1 v5 M66 _ _ c76) wl_1014 wl_1015 wl_1016 wl_854 wl_1004 hd_X11_signOf ⟨Nat.le_of_ble_eq_true rfl, Nat.le_of_ble_eq_true rfl⟩ ⟨Nat.le_refl _, Nat.le_refl _⟩ (Nat.le_of_ble_eq_true rfl) rfl dX11_bears_76 ?_
                    refine x_aload_n F dX11_bears_79 rfl 0 rfl ?_
                    refine x_iload_n F dX11_bears_80 rfl 3 rfl ?_
                    refine x_iload F dX11_bears_81 5 rfl ?_
                    obtain ⟨k83, h⟩ := gdS h
                    obtain ⟨⟨x83, M83⟩, c83, h⟩ := bdS h
                    dsimp only at h
                    refine x_callV F (As := [.int v3, .int v5]) (rest := [.int x76]) (res := (some (.int x83))) (ci := 11) (q := (RX11, TX11, 45)) rfl (by decide) k83 (k_X11_signOf l b D cy N v0 v3 v5 M76 _ _ c83) wl_1014 wl_1015 wl_1016 wl_854 wl_1004 hd_X11_signOf ⟨Nat.le_of_ble_eq_true rfl, Nat.le_of_ble_eq_true rfl⟩ ⟨Nat.le_refl _, Nat.le_refl _⟩ (Nat.le_of_ble_eq_true rfl) rfl dX11_bears_83 ?_
                    refine x_icmp_eq F (tgt := 92) dX11_bears_86 (by decide) (fun c86 => ?_) (fun c86 => ?_)
                    · rw [if_pos c86] at h
                      refine x_iinc F (v := v5 + 1) (lv' := [(5, .int (v5 + 1)), (0, .ref (b + v0)), (1, .int v1), (2, .int v2), (3, .int v3), (4, .int v4)]) dX11_bears_92 5 rfl rfl (by decide) rfl ?_
                      refine x_goto F (tgt := 62) dX11_bears_95 (by decide) ?_
                      refine x_sub [1, 2, 3, 4, 5, 0] rfl ?_
                      exact ih v4 (v5 + 1) M83 o h hE
                    · rw [if_neg c86] at h
                      refine x_iinc F (v := v4 + 1) (lv' := [(4, .int (v4 + 1)), (0, .ref (b + v0)), (1, .int v1), (2, .int v2), (3, .int v3), (5, .int v5)]) dX11_bears_89 4 rfl rfl (by decide) rfl ?_
                      refine x_iinc F (v := v5 + 1) (lv' := [(5, .int (v5 + 1)), (4, .int (v4 + 1)), (0, .ref (b + v0)), (1, .int v1), (2, .int v2), (3, .int v3)]) dX11_bears_92 5 rfl rfl (by decide) rfl ?_
                      refine x_goto F (tgt := 62) dX11_bears_95 (by decide) ?_
                      refine x_sub [2, 3, 4, 5, 1, 0] rfl ?_
                      exact ih (v4 + 1) (v5 + 1) M83 o h hE
              obtain ⟨o62, h62, h⟩ := bdS h
              refine x_sub [2, 3, 4, 5, 1, 0] rfl ?_
              refine L62 v0 v1 v2 v3 N 0 0 M47 o62 h62 (fun w4_62 M62 e => ?_)
              · subst e
                dsimp only at h
                refine x_iload F dX11_bears_98 4 rfl ?_
                refine x_iload_n F dX11_bears_100 rfl 2 rfl ?_
                refine x_icmp_ge F (tgt := 107) dX11_bears_101 (by decide) (fun c101 => ?_) (fun c101 => ?_)
                · rw [if_pos c101] at h
                  refine x_iinc F (v := v3 + 1) (lv' := [(3, .int (v3 + 1)), (0, .ref (b + v0)), (1, .int v1), (2, .int v2), (4, .int w4_62)]) dX11_bears_107 3 rfl rfl (by decide) rfl ?_
                  refine x_goto F (tgt := 25) dX11_bears_110 (by decide) ?_
                  refine x_sub [1, 2, 3, 0] rfl ?_
                  exact ih v2 (v3 + 1) M62 o h hR
                · rw [if_neg c101] at h
                  refine x_iload F dX11_bears_104 4 rfl ?_
                  refine x_istore_n F (lv' := [(2, .int w4_62), (0, .ref (b + v0)), (1, .int v1), (3, .int v3), (4, .int w4_62)]) dX11_bears_106 rfl (by decide) rfl ?_
                  refine x_iinc F (v := v3 + 1) (lv' := [(3, .int (v3 + 1)), (2, .int w4_62), (0, .ref (b + v0)), (1, .int v1), (4, .int w4_62)]) dX11_bears_107 3 rfl rfl (by decide) rfl ?_
                  refine x_goto F (tgt := 25) dX11_bears_110 (by decide) ?_
                  refine x_sub [2, 3, 1, 0] rfl ?_
                  exact ih w4_62 (v3 + 1) M62 o h hR
            · rw [if_neg c50] at h
              refine x_goto F (tgt := 107) dX11_bears_53 (by decide) ?_
              refine x_iinc F (v := v3 + 1) (lv' := [(3, .int (v3 + 1)), (0, .ref (b + v0)), (1, .int v1), (2, .int v2)]) dX11_bears_107 3 rfl rfl (by decide) rfl ?_
              refine x_goto F (tgt := 25) dX11_bears_110 (by decide) ?_
              refine x_sub [1, 2, 3, 0] rfl ?_
              exact ih v2 (v3 + 1) M47 o h hR
    obtain ⟨o25, h25, h⟩ := bdS h
    refine x_sub [2, 3, 1, 0] rfl ?_
    refine L25 v0 v1 N (x17 + 1) 0 M17 o25 h25 (fun r' M' e => ?_)
    · subst e
      try dsimp only at h
      obtain ⟨rfl, rfl⟩ := retS h; exact ⟨rfl, rfl⟩
  · rw [if_pos c10] at h
    refine x_iconst F (v := (-1)) dX11_bears_13 (by decide) ?_
    obtain ⟨rfl, rfl⟩ := retS h
    exact x_iret F hr hl dX11_bears_14
theorem dX11_fullest_0 : decode cX11_fullest 0 = .ok (.aload_n 0, 1) := by decide +kernel
theorem dX11_fullest_1 : decode cX11_fullest 1 = .ok (.iconst 0, 1) := by decide +kernel
theorem dX11_fullest_2 : decode cX11_fullest 2 = .ok (.putfield 1, 3) := by decide +kernel
theorem dX11_fullest_5 : decode cX11_fullest 5 = .ok (.iconst (-1), 1) := by decide +kernel
theorem dX11_fullest_6 : decode cX11_fullest 6 = .ok (.istore_n 1, 1) := by decide +kernel
theorem dX11_fullest_7 : decode cX11_fullest 7 = .ok (.iconst 0, 1) := by decide +kernel
theorem dX11_fullest_8 : decode cX11_fullest 8 = .ok (.istore_n 2, 1) := by decide +kernel
theorem dX11_fullest_9 : decode cX11_fullest 9 = .ok (.iload_n 2, 1) := by decide +kernel
theorem dX11_fullest_10 : decode cX11_fullest 10 = .ok (.aload_n 0, 1) := by decide +kernel
theorem dX11_fullest_11 : decode cX11_fullest 11 = .ok (.getfield 98, 3) := by decide +kernel
theorem dX11_fullest_14 : decode cX11_fullest 14 = .ok (.iconst 0, 1) := by decide +kernel
theorem dX11_fullest_15 : decode cX11_fullest 15 = .ok (.iaload, 1) := by decide +kernel
theorem dX11_fullest_16 : decode cX11_fullest 16 = .ok (.if_icmp .ge 29, 3) := by decide +kernel
theorem dX11_fullest_19 : decode cX11_fullest 19 = .ok (.iload_n 1, 1) := by decide +kernel
theorem dX11_fullest_20 : decode cX11_fullest 20 = .ok (.iconst (-1), 1) := by decide +kernel
theorem dX11_fullest_21 : decode cX11_fullest 21 = .ok (.if_icmp .eq 16, 3) := by decide +kernel
theorem dX11_fullest_24 : decode cX11_fullest 24 = .ok (.aload_n 0, 1) := by decide +kernel
theorem dX11_fullest_25 : decode cX11_fullest 25 = .ok (.iload_n 2, 1) := by decide +kernel
theorem dX11_fullest_26 : decode cX11_fullest 26 = .ok (.invokevirtual 252, 3) := by decide +kernel
theorem dX11_fullest_29 : decode cX11_fullest 29 = .ok (.aload_n 0, 1) := by decide +kernel
theorem dX11_fullest_30 : decode cX11_fullest 30 = .ok (.iload_n 1, 1) := by decide +kernel
theorem dX11_fullest_31 : decode cX11_fullest 31 = .ok (.invokevirtual 252, 3) := by decide +kernel
theorem dX11_fullest_34 : decode cX11_fullest 34 = .ok (.if_icmp .le 5, 3) := by decide +kernel
theorem dX11_fullest_37 : decode cX11_fullest 37 = .ok (.iload_n 2, 1) := by decide +kernel
theorem dX11_fullest_38 : decode cX11_fullest 38 = .ok (.istore_n 1, 1) := by decide +kernel
theorem dX11_fullest_39 : decode cX11_fullest 39 = .ok (.iinc 2 1, 3) := by decide +kernel
theorem dX11_fullest_42 : decode cX11_fullest 42 = .ok (.goto (-33), 3) := by decide +kernel
theorem dX11_fullest_45 : decode cX11_fullest 45 = .ok (.iload_n 1, 1) := by decide +kernel
theorem dX11_fullest_46 : decode cX11_fullest 46 = .ok (.ireturn, 1) := by decide +kernel
def fX11_fullest_L9 (N : Nat) (v0 : Nat) : Nat → Int32 → Int32 → Mem → Option (Int32 × Mem)
  | 0, _, _, _ => none
  | n + 1, v1, v2, M => ((fR M 11 v0 14).bind fun x11 => ((aI M x11 0).bind fun x15 => (if x15 ≤ v2 then some (v1, M) else (if v1 = ((-1)) then fX11_fullest_L9 N v0 n v2 (v2 + 1) M else (if mK M v0 = 12 then ((fX11_signsOf N v0 v2 M).bind fun (x26, M26) => (if mK M26 v0 = 12 then ((fX11_signsOf N v0 v1 M26).bind fun (x31, M31) => (if x26 ≤ x31 then fX11_fullest_L9 N v0 n v1 (v2 + 1) M31 else fX11_fullest_L9 N v0 n v2 (v2 + 1) M31)) else none)) else none)))))
def fX11_fullest (N : Nat) (v0 : Nat) (M : Mem) : Option (Int32 × Mem) := ((pI M 11 v0 0 0).bind fun M2 => ((fX11_fullest_L9 N v0 N ((-1)) 0 M2).bind fun o9 => some o9))
set_option maxHeartbeats 4000000 in
set_option maxRecDepth 100000 in
theorem k_X11_fullest (l : Launch) (b : Nat) (D : va_G) (cy : Nat → ClassId) (N : Nat) (v0 : Nat) (M : Mem) (r : Int32) (Mf : Mem) (h : fX11_fullest N v0 M = some (r, Mf)) : Ct l yX11_fullest cX11_fullest 3 (some .int) 3 0 0 b D cy [.ref (b + v0)] M (some (.int r)) Mf := by
  refine Ct_of (own := RX11) (by decide) rfl (Nat.le_of_ble_eq_true rfl) ?_
  intro p e s m args below meth c F hr hl hmn
  unfold fX11_fullest at h
  show X p l e ({ frames := 3, cells := 0, slots := 0, locals := 100 * 3 }) s m args below meth c (MQ below (Qm b D cy (some (.int r)) Mf) args s 0 0 (fun q => b ≤ q)) 3 b D cy 0 0 M 0 [(0, .ref (b + v0))] []
  refine x_aload_n F dX11_fullest_0 rfl 0 rfl ?_
  refine x_iconst F (v := 0) dX11_fullest_1 (by decide) ?_
  obtain ⟨M2, c2, h⟩ := bdS h
  refine x_putI F (ci := 11) (C := RX11) (T := TX11) (N := 45) rfl ⟨by decide, rfl⟩ inU11 tyX11_ok nmX11 0 (by decide) rfl rfl wl_845 c2 dX11_fullest_2 ?_
  refine x_iconst F (v := (-1)) dX11_fullest_5 (by decide) ?_
  refine x_istore_n F (lv' := [(1, .int ((-1))), (0, .ref (b + v0))]) dX11_fullest_6 rfl (by decide) rfl ?_
  refine x_iconst F (v := 0) dX11_fullest_7 (by decide) ?_
  refine x_istore_n F (lv' := [(2, .int 0), (1, .int ((-1))), (0, .ref (b + v0))]) dX11_fullest_8 rfl (by decide) rfl ?_
  have L9 : ∀ (v0 : Nat) (n : Nat) (v1 : Int32) (v2 : Int32) (M : Mem) (o : Int32 × Mem), fX11_fullest_L9 N v0 n v1 v2 M = some o → (∀ (r' : Int32) (M' : Mem), o = (r', M') → r' = r ∧ M' = Mf) → X p l e ({ frames := 3, cells := 0, slots := 0, locals := 100 * 3 }) s m args below meth c (MQ below (Qm b D cy (some (.int r)) Mf) args s 0 0 (fun q => b ≤ q)) 3 b D cy 0 0 M 9 [(0, .ref (b + v0)), (1, .int v1), (2, .int v2)] [] := by
    intro v0 n
    induction n with
    | zero => intro v1 v2 M o h; exact absurd h (by rw [fX11_fullest_L9]; exact fun z => by cases z)
    | succ n ih =>
      intro v1 v2 M o h hR
      rw [fX11_fullest_L9] at h
      refine x_iload_n F dX11_fullest_9 rfl 2 rfl ?_
      refine x_aload_n F dX11_fullest_10 rfl 0 rfl ?_
      obtain ⟨x11, c11, h⟩ := bdS h
      refine x_getR F (ci := 11) (C := RX11) (T := TX11) (N := 45) rfl ⟨by decide, rfl⟩ inU11 14 (by decide) (fun _ _ _ => rfl) wl_913 c11 dX11_fullest_11 ?_
      refine x_iconst F (v := 0) dX11_fullest_14 (by decide) ?_
      obtain ⟨x15, c15, h⟩ := bdS h
      refine x_aI F c15 dX11_fullest_15 ?_
      refine x_icmp_ge F (tgt := 45) dX11_fullest_16 (by decide) (fun c16 => ?_) (fun c16 => ?_)
      · rw [if_pos c16] at h
        refine x_iload_n F dX11_fullest_45 rfl 1 rfl ?_
        obtain rfl := Option.some.inj h
        obtain ⟨rfl, rfl⟩ := hR _ _ rfl
        exact x_iret F hr hl dX11_fullest_46
      · rw [if_neg c16] at h
        refine x_iload_n F dX11_fullest_19 rfl 1 rfl ?_
        refine x_iconst F (v := (-1)) dX11_fullest_20 (by decide) ?_
        refine x_icmp_eq F (tgt := 37) dX11_fullest_21 (by decide) (fun c21 => ?_) (fun c21 => ?_)
        · rw [if_pos c21] at h
          refine x_iload_n F dX11_fullest_37 rfl 2 rfl ?_
          refine x_istore_n F (lv' := [(1, .int v2), (0, .ref (b + v0)), (2, .int v2)]) dX11_fullest_38 rfl (by decide) rfl ?_
          refine x_iinc F (v := v2 + 1) (lv' := [(2, .int (v2 + 1)), (1, .int v2), (0, .ref (b + v0))]) dX11_fullest_39 2 rfl rfl (by decide) rfl ?_
          refine x_goto F (tgt := 9) dX11_fullest_42 (by decide) ?_
          refine x_sub [2, 1, 0] rfl ?_
          exact ih v2 (v2 + 1) M o h hR
        · rw [if_neg c21] at h
          refine x_aload_n F dX11_fullest_24 rfl 0 rfl ?_
          refine x_iload_n F dX11_fullest_25 rfl 2 rfl ?_
          obtain ⟨k26, h⟩ := gdS h
          obtain ⟨⟨x26, M26⟩, c26, h⟩ := bdS h
          dsimp only at h
          refine x_callV F (As := [.int v2]) (rest := []) (res := (some (.int x26))) (ci := 11) (q := (RX11, TX11, 45)) rfl (by decide) k26 (k_X11_signsOf l b D cy N v0 v2 M _ _ c26) wl_1045 wl_1046 wl_1047 wl_854 wl_1033 hd_X11_signsOf ⟨Nat.le_of_ble_eq_true rfl, Nat.le_of_ble_eq_true rfl⟩ ⟨Nat.le_refl _, Nat.le_refl _⟩ (Nat.le_of_ble_eq_true rfl) rfl dX11_fullest_26 ?_
          refine x_aload_n F dX11_fullest_29 rfl 0 rfl ?_
          refine x_iload_n F dX11_fullest_30 rfl 1 rfl ?_
          obtain ⟨k31, h⟩ := gdS h
          obtain ⟨⟨x31, M31⟩, c31, h⟩ := bdS h
          dsimp only at h
          refine x_callV F (As := [.int v1]) (rest := [.int x26]) (res := (some (.int x31))) (ci := 11) (q := (RX11, TX11, 45)) rfl (by decide) k31 (k_X11_signsOf l b D cy N v0 v1 M26 _ _ c31) wl_1045 wl_1046 wl_1047 wl_854 wl_1033 hd_X11_signsOf ⟨Nat.le_of_ble_eq_true rfl, Nat.le_of_ble_eq_true rfl⟩ ⟨Nat.le_refl _, Nat.le_refl _⟩ (Nat.le_of_ble_eq_true rfl) rfl dX11_fullest_31 ?_
          refine x_icmp_le F (tgt := 39) dX11_fullest_34 (by decide) (fun c34 => ?_) (fun c34 => ?_)
          · rw [if_pos c34] at h
            refine x_iinc F (v := v2 + 1) (lv' := [(2, .int (v2 + 1)), (0, .ref (b + v0)), (1, .int v1)]) dX11_fullest_39 2 rfl rfl (by decide) rfl ?_
            refine x_goto F (tgt := 9) dX11_fullest_42 (by decide) ?_
            refine x_sub [1, 2, 0] rfl ?_
            exact ih v1 (v2 + 1) M31 o h hR
          · rw [if_neg c34] at h
            refine x_iload_n F dX11_fullest_37 rfl 2 rfl ?_
            refine x_istore_n F (lv' := [(1, .int v2), (0, .ref (b + v0)), (2, .int v2)]) dX11_fullest_38 rfl (by decide) rfl ?_
            refine x_iinc F (v := v2 + 1) (lv' := [(2, .int (v2 + 1)), (1, .int v2), (0, .ref (b + v0))]) dX11_fullest_39 2 rfl rfl (by decide) rfl ?_
            refine x_goto F (tgt := 9) dX11_fullest_42 (by decide) ?_
            refine x_sub [2, 1, 0] rfl ?_
            exact ih v2 (v2 + 1) M31 o h hR
  obtain ⟨o9, h9, h⟩ := bdS h
  refine x_sub [2, 1, 0] rfl ?_
  refine L9 v0 N ((-1)) 0 M2 o9 h9 (fun r' M' e => ?_)
  · subst e
    try dsimp only at h
    obtain ⟨rfl, rfl⟩ := retS h; exact ⟨rfl, rfl⟩
theorem dX11_write__0 : decode cX11_write_ 0 = .ok (.aload_n 0, 1) := by decide +kernel
theorem dX11_write__1 : decode cX11_write_ 1 = .ok (.getfield 142, 3) := by decide +kernel
theorem dX11_write__4 : decode cX11_write_ 4 = .ok (.aload_n 0, 1) := by decide +kernel
theorem dX11_write__5 : decode cX11_write_ 5 = .ok (.getfield 336, 3) := by decide +kernel
theorem dX11_write__8 : decode cX11_write_ 8 = .ok (.iload_n 1, 1) := by decide +kernel
theorem dX11_write__9 : decode cX11_write_ 9 = .ok (.iastore, 1) := by decide +kernel
theorem dX11_write__10 : decode cX11_write_ 10 = .ok (.aload_n 0, 1) := by decide +kernel
theorem dX11_write__11 : decode cX11_write_ 11 = .ok (.dup, 1) := by decide +kernel
theorem dX11_write__12 : decode cX11_write_ 12 = .ok (.getfield 336, 3) := by decide +kernel
theorem dX11_write__15 : decode cX11_write_ 15 = .ok (.iconst 1, 1) := by decide +kernel
theorem dX11_write__16 : decode cX11_write_ 16 = .ok (.iadd, 1) := by decide +kernel
theorem dX11_write__17 : decode cX11_write_ 17 = .ok (.putfield 336, 3) := by decide +kernel
theorem dX11_write__20 : decode cX11_write_ 20 = .ok (.return_, 1) := by decide +kernel
def fX11_write_ (N : Nat) (v0 : Nat) (v1 : Int32) (M : Mem) : Option (Unit × Mem) := ((fR M 11 v0 33).bind fun x1 => ((fI M 11 v0 34).bind fun x5 => ((tI M x1 x5 v1).bind fun M9 => ((fI M9 11 v0 34).bind fun x12 => ((pI M9 11 v0 34 (x12 + 1)).bind fun M17 => some ((), M17))))))
set_option maxHeartbeats 4000000 in
set_option maxRecDepth 100000 in
theorem k_X11_write_ (l : Launch) (b : Nat) (D : va_G) (cy : Nat → ClassId) (N : Nat) (v0 : Nat) (v1 : Int32) (M : Mem) (r : Unit) (Mf : Mem) (h : fX11_write_ N v0 v1 M = some (r, Mf)) : Ct l yX11_write_ cX11_write_ 2 none 1 0 0 b D cy [.ref (b + v0), .int v1] M none Mf := by
  refine Ct_of (own := RX11) (by decide) rfl (Nat.le_of_ble_eq_true rfl) ?_
  intro p e s m args below meth c F hr hl hmn
  unfold fX11_write_ at h
  show X p l e ({ frames := 1, cells := 0, slots := 0, locals := 100 * 1 }) s m args below meth c (MQ below (Qm b D cy none Mf) args s 0 0 (fun q => b ≤ q)) 2 b D cy 0 0 M 0 [(0, .ref (b + v0)), (1, .int v1)] []
  refine x_aload_n F dX11_write__0 rfl 0 rfl ?_
  obtain ⟨x1, c1, h⟩ := bdS h
  refine x_getR F (ci := 11) (C := RX11) (T := TX11) (N := 45) rfl ⟨by decide, rfl⟩ inU11 33 (by decide) (fun _ _ _ => rfl) wl_928 c1 dX11_write__1 ?_
  refine x_aload_n F dX11_write__4 rfl 0 rfl ?_
  obtain ⟨x5, c5, h⟩ := bdS h
  refine x_getI F (ci := 11) (C := RX11) (T := TX11) (N := 45) rfl ⟨by decide, rfl⟩ inU11 34 (by decide) (fun _ _ _ => rfl) wl_1155 c5 dX11_write__5 ?_
  refine x_iload_n F dX11_write__8 rfl 1 rfl ?_
  obtain ⟨M9, c9, h⟩ := bdS h
  refine x_tI F c9 dX11_write__9 ?_
  refine x_aload_n F dX11_write__10 rfl 0 rfl ?_
  refine x_dup F dX11_write__11 rfl ?_
  obtain ⟨x12, c12, h⟩ := bdS h
  refine x_getI F (ci := 11) (C := RX11) (T := TX11) (N := 45) rfl ⟨by decide, rfl⟩ inU11 34 (by decide) (fun _ _ _ => rfl) wl_1155 c12 dX11_write__12 ?_
  refine x_iconst F (v := 1) dX11_write__15 (by decide) ?_
  refine x_iadd F dX11_write__16 ?_
  obtain ⟨M17, c17, h⟩ := bdS h
  refine x_putI F (ci := 11) (C := RX11) (T := TX11) (N := 45) rfl ⟨by decide, rfl⟩ inU11 tyX11_ok nmX11 34 (by decide) rfl rfl wl_1155 c17 dX11_write__17 ?_
  obtain ⟨rfl, rfl⟩ := retS h
  exact x_vret F hr hl dX11_write__20
theorem hd_X11_write_ : (yX11_write_).cls = RX11 ∧ (yX11_write_).cls ≠ "java/lang/invoke/MethodHandle" ∧ (yX11_write_).cls ≠ "java/lang/invoke/VarHandle" ∧ (parseMethodDescriptor (yX11_write_).desc).map (fun d => d.parameters.length) = some 1 := by decide +kernel
theorem hd_X11_writeWord : (yX11_writeWord).cls = RX11 ∧ (yX11_writeWord).cls ≠ "java/lang/invoke/MethodHandle" ∧ (yX11_writeWord).cls ≠ "java/lang/invoke/VarHandle" ∧ (parseMethodDescriptor (yX11_writeWord).desc).map (fun d => d.parameters.length) = some 1 := by decide +kernel
theorem dX11_writeWord_0 : decode cX11_writeWord 0 = .ok (.lload_n 1, 1) := by decide +kernel
theorem dX11_writeWord_1 : decode cX11_writeWord 1 = .ok (.ldc2_w 54, 3) := by decide +kernel
theorem dX11_writeWord_4 : decode cX11_writeWord 4 = .ok (.lcmp, 1) := by decide +kernel
theorem dX11_writeWord_5 : decode cX11_writeWord 5 = .ok (.ifCond .lt 12, 3) := by decide +kernel
theorem dX11_writeWord_8 : decode cX11_writeWord 8 = .ok (.aload_n 0, 1) := by decide +kernel
theorem dX11_writeWord_9 : decode cX11_writeWord 9 = .ok (.lload_n 1, 1) := by decide +kernel
theorem dX11_writeWord_10 : decode cX11_writeWord 10 = .ok (.ldc2_w 54, 3) := by decide +kernel
theorem dX11_writeWord_13 : decode cX11_writeWord 13 = .ok (.ldiv, 1) := by decide +kernel
theorem dX11_writeWord_14 : decode cX11_writeWord 14 = .ok (.invokevirtual 339, 3) := by decide +kernel
theorem dX11_writeWord_17 : decode cX11_writeWord 17 = .ok (.aload_n 0, 1) := by decide +kernel
theorem dX11_writeWord_18 : decode cX11_writeWord 18 = .ok (.bipush 96, 2) := by decide +kernel
theorem dX11_writeWord_20 : decode cX11_writeWord 20 = .ok (.lload_n 1, 1) := by decide +kernel
theorem dX11_writeWord_21 : decode cX11_writeWord 21 = .ok (.ldc2_w 54, 3) := by decide +kernel
theorem dX11_writeWord_24 : decode cX11_writeWord 24 = .ok (.lrem, 1) := by decide +kernel
theorem dX11_writeWord_25 : decode cX11_writeWord 25 = .ok (.l2i, 1) := by decide +kernel
theorem dX11_writeWord_26 : decode cX11_writeWord 26 = .ok (.iadd, 1) := by decide +kernel
theorem dX11_writeWord_27 : decode cX11_writeWord 27 = .ok (.invokevirtual 343, 3) := by decide +kernel
theorem dX11_writeWord_30 : decode cX11_writeWord 30 = .ok (.return_, 1) := by decide +kernel
def fX11_writeWord_J17 (N : Nat) (rf : Nat → Int64 → Mem → Option (Unit × Mem)) (v0 : Nat) (v1 : Int64) (M : Mem) : Option (Unit × Mem) := (if mK M v0 = 12 then ((fX11_write_ N v0 (96 + (Int64.toInt32 (v1 - v1 / ((27)) * ((27))))) M).bind fun (u27, M27) => some ((), M27)) else none)
def fX11_writeWord_b (N : Nat) (rf : Nat → Int64 → Mem → Option (Unit × Mem)) (v0 : Nat) (v1 : Int64) (M : Mem) : Option (Unit × Mem) := (if (lg_cmp v1 ((27))) < 0 then fX11_writeWord_J17 N rf v0 v1 M else (if mK M v0 = 12 then ((rf v0 (v1 / ((27))) M).bind fun (u14, M14) => fX11_writeWord_J17 N rf v0 v1 M14) else none))
set_option maxHeartbeats 4000000 in
set_option maxRecDepth 100000 in
theorem kb_X11_writeWord (l : Launch) (b : Nat) (D : va_G) (cy : Nat → ClassId) (N n0 : Nat) (hn0 : 2 ≤ n0) (rf : Nat → Int64 → Mem → Option (Unit × Mem)) (hrf_X11_writeWord : ∀ (v0 : Nat) (v1 : Int64) (M : Mem) (r : Unit) (Mf : Mem), rf v0 v1 M = some (r, Mf) → Ct l yX11_writeWord cX11_writeWord 3 none n0 0 0 b D cy [.ref (b + v0), .long v1] M none Mf) (v0 : Nat) (v1 : Int64) (M : Mem) (r : Unit) (Mf : Mem) (h : fX11_writeWord_b N rf v0 v1 M = some (r, Mf)) : Ct l yX11_writeWord cX11_writeWord 3 none (n0 + 1) 0 0 b D cy [.ref (b + v0), .long v1] M none Mf := by
  refine Ct_of (own := RX11) (by decide) rfl (Nat.le_of_ble_eq_true rfl) ?_
  intro p e s m args below meth c F hr hl hmn
  unfold fX11_writeWord_b at h
  have J17 : ∀ (v0 : Nat) (v1 : Int64) (M : Mem), fX11_writeWord_J17 N rf v0 v1 M = some (r, Mf) → X p l e ({ frames := n0 + 1, cells := 0, slots := 0, locals := 100 * (n0 + 1) }) s m args below meth c (MQ below (Qm b D cy none Mf) args s 0 0 (fun q => b ≤ q)) 3 b D cy 0 0 M 17 [(0, .ref (b + v0)), (1, .long v1)] [] := by
    intro v0 v1 M h
    unfold fX11_writeWord_J17 at h
    refine x_aload_n F dX11_writeWord_17 rfl 0 rfl ?_
    refine x_bipush F (v := 96) dX11_writeWord_18 (by decide) ?_
    refine x_lload_n F dX11_writeWord_20 rfl 1 rfl ?_
    refine x_ldc2 F (v := (27)) dX11_writeWord_21 wl_873 ?_
    refine x_lrem F dX11_writeWord_24 (by decide) ?_
    refine x_l2i F dX11_writeWord_25 ?_
    refine x_iadd F dX11_writeWord_26 ?_
    obtain ⟨k27, h⟩ := gdS h
    obtain ⟨⟨u27, M27⟩, c27, h⟩ := bdS h
    dsimp only at h
    refine x_callV F (As := [.int (96 + (Int64.toInt32 (v1 - v1 / ((27)) * ((27)))))]) (rest := []) (res := none) (ci := 11) (q := (RX11, TX11, 45)) rfl (by decide) k27 (k_X11_write_ l b D cy N v0 (96 + (Int64.toInt32 (v1 - v1 / ((27)) * ((27))))) M _ _ c27) wl_1160 wl_1161 wl_1162 wl_854 wl_1154 hd_X11_write_ ⟨by show 1 + 1 ≤ n0 + 1; omega, by show 8 + (2 + 11) + 100 * 1 ≤ 100 * (n0 + 1); omega⟩ ⟨Nat.le_refl _, Nat.le_refl _⟩ (Nat.le_of_ble_eq_true rfl) rfl dX11_writeWord_27 ?_
    obtain ⟨rfl, rfl⟩ := retS h
    exact x_vret F hr hl dX11_writeWord_30
  show X p l e ({ frames := n0 + 1, cells := 0, slots := 0, locals := 100 * (n0 + 1) }) s m args below meth c (MQ below (Qm b D cy none Mf) args s 0 0 (fun q => b ≤ q)) 3 b D cy 0 0 M 0 [(0, .ref (b + v0)), (1, .long v1)] []
  refine x_lload_n F dX11_writeWord_0 rfl 1 rfl ?_
  refine x_ldc2 F (v := (27)) dX11_writeWord_1 wl_873 ?_
  refine x_lcmp F dX11_writeWord_4 ?_
  refine x_if_lt F (tgt := 17) dX11_writeWord_5 (by decide) (fun c5 => ?_) (fun c5 => ?_)
  · rw [if_pos c5] at h
    exact J17 v0 v1 M h
  · rw [if_neg c5] at h
    refine x_aload_n F dX11_writeWord_8 rfl 0 rfl ?_
    refine x_lload_n F dX11_writeWord_9 rfl 1 rfl ?_
    refine x_ldc2 F (v := (27)) dX11_writeWord_10 wl_873 ?_
    refine x_ldiv F dX11_writeWord_13 (by decide) ?_
    obtain ⟨k14, h⟩ := gdS h
    obtain ⟨⟨u14, M14⟩, c14, h⟩ := bdS h
    dsimp only at h
    refine x_callV F (As := [.long (v1 / ((27)))]) (rest := []) (res := none) (ci := 11) (q := (RX11, TX11, 45)) rfl (by decide) k14 (hrf_X11_writeWord v0 (v1 / ((27))) M _ _ c14) wl_1157 wl_1158 wl_1159 wl_854 wl_1156 hd_X11_writeWord ⟨by show n0 + 1 ≤ n0 + 1; omega, by show 8 + (3 + 11) + 100 * n0 ≤ 100 * (n0 + 1); omega⟩ ⟨Nat.le_refl _, Nat.le_refl _⟩ (Nat.le_of_ble_eq_true rfl) rfl dX11_writeWord_14 ?_
    exact J17 v0 v1 M14 h
def fX11_writeWord (N : Nat) : Nat → Nat → Int64 → Mem → Option (Unit × Mem)
  | 0, _, _, _ => none
  | d + 1, v0, v1, M => fX11_writeWord_b N (fX11_writeWord N d) v0 v1 M
theorem kg_X11_writeWord (l : Launch) (b : Nat) (D : va_G) (cy : Nat → ClassId) (N : Nat) : ∀ d : Nat, (∀ (v0 : Nat) (v1 : Int64) (M : Mem) (r : Unit) (Mf : Mem), fX11_writeWord N d v0 v1 M = some (r, Mf) → Ct l yX11_writeWord cX11_writeWord 3 none (2 + d) 0 0 b D cy [.ref (b + v0), .long v1] M none Mf) := by
  intro d
  induction d with
  | zero => exact fun v0 v1 M r Mf h => (by rw [fX11_writeWord] at h; cases h)
  | succ d ih =>
    exact fun v0 v1 M r Mf h => (by rw [fX11_writeWord] at h; exact kb_X11_writeWord l b D cy N (2 + d) (by omega) _ (ih) v0 v1 M r Mf h)
theorem k_X11_writeWord (l : Launch) (b : Nat) (D : va_G) (cy : Nat → ClassId) (N d : Nat) (v0 : Nat) (v1 : Int64) (M : Mem) (r : Unit) (Mf : Mem) (h : fX11_writeWord N d v0 v1 M = some (r, Mf)) : Ct l yX11_writeWord cX11_writeWord 3 none (2 + d) 0 0 b D cy [.ref (b + v0), .long v1] M none Mf := (kg_X11_writeWord l b D cy N d) v0 v1 M r Mf h
theorem dX11_row_0 : decode cX11_row 0 = .ok (.aload_n 0, 1) := by decide +kernel
theorem dX11_row_1 : decode cX11_row 1 = .ok (.iconst 0, 1) := by decide +kernel
theorem dX11_row_2 : decode cX11_row 2 = .ok (.putfield 1, 3) := by decide +kernel
theorem dX11_row_5 : decode cX11_row 5 = .ok (.aload_n 0, 1) := by decide +kernel
theorem dX11_row_6 : decode cX11_row 6 = .ok (.iload_n 1, 1) := by decide +kernel
theorem dX11_row_7 : decode cX11_row 7 = .ok (.invokevirtual 246, 3) := by decide +kernel
theorem dX11_row_10 : decode cX11_row 10 = .ok (.ifCond .ne 5, 3) := by decide +kernel
theorem dX11_row_13 : decode cX11_row 13 = .ok (.iconst (-1), 1) := by decide +kernel
theorem dX11_row_14 : decode cX11_row 14 = .ok (.ireturn, 1) := by decide +kernel
theorem dX11_row_15 : decode cX11_row 15 = .ok (.aload_n 0, 1) := by decide +kernel
theorem dX11_row_16 : decode cX11_row 16 = .ok (.iconst 0, 1) := by decide +kernel
theorem dX11_row_17 : decode cX11_row 17 = .ok (.putfield 336, 3) := by decide +kernel
theorem dX11_row_20 : decode cX11_row 20 = .ok (.aload_n 0, 1) := by decide +kernel
theorem dX11_row_21 : decode cX11_row 21 = .ok (.aload_n 0, 1) := by decide +kernel
theorem dX11_row_22 : decode cX11_row 22 = .ok (.getfield 113, 3) := by decide +kernel
theorem dX11_row_25 : decode cX11_row 25 = .ok (.iload_n 1, 1) := by decide +kernel
theorem dX11_row_26 : decode cX11_row 26 = .ok (.laload, 1) := by decide +kernel
theorem dX11_row_27 : decode cX11_row 27 = .ok (.invokevirtual 339, 3) := by decide +kernel
theorem dX11_row_30 : decode cX11_row 30 = .ok (.aload_n 0, 1) := by decide +kernel
theorem dX11_row_31 : decode cX11_row 31 = .ok (.bipush 32, 2) := by decide +kernel
theorem dX11_row_33 : decode cX11_row 33 = .ok (.invokevirtual 343, 3) := by decide +kernel
theorem dX11_row_36 : decode cX11_row 36 = .ok (.iconst 0, 1) := by decide +kernel
theorem dX11_row_37 : decode cX11_row 37 = .ok (.istore_n 2, 1) := by decide +kernel
theorem dX11_row_38 : decode cX11_row 38 = .ok (.iload_n 2, 1) := by decide +kernel
theorem dX11_row_39 : decode cX11_row 39 = .ok (.aload_n 0, 1) := by decide +kernel
theorem dX11_row_40 : decode cX11_row 40 = .ok (.getfield 98, 3) := by decide +kernel
theorem dX11_row_43 : decode cX11_row 43 = .ok (.bipush 11, 2) := by decide +kernel
theorem dX11_row_45 : decode cX11_row 45 = .ok (.iload_n 1, 1) := by decide +kernel
theorem dX11_row_46 : decode cX11_row 46 = .ok (.iadd, 1) := by decide +kernel
theorem dX11_row_47 : decode cX11_row 47 = .ok (.iaload, 1) := by decide +kernel
theorem dX11_row_48 : decode cX11_row 48 = .ok (.if_icmp .ge 37, 3) := by decide +kernel
theorem dX11_row_51 : decode cX11_row 51 = .ok (.aload_n 0, 1) := by decide +kernel
theorem dX11_row_52 : decode cX11_row 52 = .ok (.aload_n 0, 1) := by decide +kernel
theorem dX11_row_53 : decode cX11_row 53 = .ok (.iload_n 1, 1) := by decide +kernel
theorem dX11_row_54 : decode cX11_row 54 = .ok (.iload_n 2, 1) := by decide +kernel
theorem dX11_row_55 : decode cX11_row 55 = .ok (.invokevirtual 219, 3) := by decide +kernel
theorem dX11_row_58 : decode cX11_row 58 = .ok (.iconst (-1), 1) := by decide +kernel
theorem dX11_row_59 : decode cX11_row 59 = .ok (.if_icmp .ne 8, 3) := by decide +kernel
theorem dX11_row_62 : decode cX11_row 62 = .ok (.bipush 46, 2) := by decide +kernel
theorem dX11_row_64 : decode cX11_row 64 = .ok (.goto 12, 3) := by decide +kernel
theorem dX11_row_67 : decode cX11_row 67 = .ok (.bipush 48, 2) := by decide +kernel
theorem dX11_row_69 : decode cX11_row 69 = .ok (.aload_n 0, 1) := by decide +kernel
theorem dX11_row_70 : decode cX11_row 70 = .ok (.iload_n 1, 1) := by decide +kernel
theorem dX11_row_71 : decode cX11_row 71 = .ok (.iload_n 2, 1) := by decide +kernel
theorem dX11_row_72 : decode cX11_row 72 = .ok (.invokevirtual 219, 3) := by decide +kernel
theorem dX11_row_75 : decode cX11_row 75 = .ok (.iadd, 1) := by decide +kernel
theorem dX11_row_76 : decode cX11_row 76 = .ok (.invokevirtual 343, 3) := by decide +kernel
theorem dX11_row_79 : decode cX11_row 79 = .ok (.iinc 2 1, 3) := by decide +kernel
theorem dX11_row_82 : decode cX11_row 82 = .ok (.goto (-44), 3) := by decide +kernel
theorem dX11_row_85 : decode cX11_row 85 = .ok (.aload_n 0, 1) := by decide +kernel
theorem dX11_row_86 : decode cX11_row 86 = .ok (.getfield 336, 3) := by decide +kernel
theorem dX11_row_89 : decode cX11_row 89 = .ok (.ireturn, 1) := by decide +kernel
def fX11_row_L38 (N : Nat) (v0 : Nat) (v1 : Int32) : Nat → Int32 → Mem → Option (Int32 × Mem)
  | 0, _, _ => none
  | n + 1, v2, M => ((fR M 11 v0 14).bind fun x40 => ((aI M x40 (11 + v1)).bind fun x47 => (if x47 ≤ v2 then ((fI M 11 v0 34).bind fun x86 => some (x86, M)) else (if mK M v0 = 12 then ((fX11_signAt N v0 v1 v2 M).bind fun (x55, M55) => (if x55 = ((-1)) then (if mK M55 v0 = 12 then ((fX11_write_ N v0 46 M55).bind fun (u76, M76) => fX11_row_L38 N v0 v1 n (v2 + 1) M76) else none) else (if mK M55 v0 = 12 then ((fX11_signAt N v0 v1 v2 M55).bind fun (x72, M72) => (if mK M72 v0 = 12 then ((fX11_write_ N v0 (48 + x72) M72).bind fun (u76, M76) => fX11_row_L38 N v0 v1 n (v2 + 1) M76) else none)) else none))) else none))))
def fX11_row (N : Nat) (v0 : Nat) (v1 : Int32) (M : Mem) : Option (Int32 × Mem) := ((pI M 11 v0 0 0).bind fun M2 => (if mK M2 v0 = 12 then ((fX11_isBand N v0 v1 M2).bind fun (x7, M7) => (if x7 = 0 then some ((-1), M7) else ((pI M7 11 v0 34 0).bind fun M17 => ((fR M17 11 v0 19).bind fun x22 => ((aL M17 x22 v1).bind fun x26 => (if mK M17 v0 = 12 then ((fX11_writeWord N 8 v0 x26 M17).bind fun (u27, M27) => (if mK M27 v0 = 12 then ((fX11_write_ N v0 32 M27).bind fun (u33, M33) => ((fX11_row_L38 N v0 v1 N 0 M33).bind fun o38 => some o38)) else none)) else none)))))) else none))
set_option maxHeartbeats 4000000 in
set_option maxRecDepth 100000 in
theorem k_X11_row (l : Launch) (b : Nat) (D : va_G) (cy : Nat → ClassId) (N : Nat) (v0 : Nat) (v1 : Int32) (M : Mem) (r : Int32) (Mf : Mem) (h : fX11_row N v0 v1 M = some (r, Mf)) : Ct l yX11_row cX11_row 3 (some .int) 11 0 0 b D cy [.ref (b + v0), .int v1] M (some (.int r)) Mf := by
  refine Ct_of (own := RX11) (by decide) rfl (Nat.le_of_ble_eq_true rfl) ?_
  intro p e s m args below meth c F hr hl hmn
  unfold fX11_row at h
  show X p l e ({ frames := 11, cells := 0, slots := 0, locals := 100 * 11 }) s m args below meth c (MQ below (Qm b D cy (some (.int r)) Mf) args s 0 0 (fun q => b ≤ q)) 3 b D cy 0 0 M 0 [(0, .ref (b + v0)), (1, .int v1)] []
  refine x_aload_n F dX11_row_0 rfl 0 rfl ?_
  refine x_iconst F (v := 0) dX11_row_1 (by decide) ?_
  obtain ⟨M2, c2, h⟩ := bdS h
  refine x_putI F (ci := 11) (C := RX11) (T := TX11) (N := 45) rfl ⟨by decide, rfl⟩ inU11 tyX11_ok nmX11 0 (by decide) rfl rfl wl_845 c2 dX11_row_2 ?_
  refine x_aload_n F dX11_row_5 rfl 0 rfl ?_
  refine x_iload_n F dX11_row_6 rfl 1 rfl ?_
  obtain ⟨k7, h⟩ := gdS h
  obtain ⟨⟨x7, M7⟩, c7, h⟩ := bdS h
  dsimp only at h
  refine x_callV F (As := [.int v1]) (rest := []) (res := (some (.int x7))) (ci := 11) (q := (RX11, TX11, 45)) rfl (by decide) k7 (k_X11_isBand l b D cy N v0 v1 M2 _ _ c7) wl_1039 wl_1040 wl_1041 wl_854 wl_998 hd_X11_isBand ⟨Nat.le_of_ble_eq_true rfl, Nat.le_of_ble_eq_true rfl⟩ ⟨Nat.le_refl _, Nat.le_refl _⟩ (Nat.le_of_ble_eq_true rfl) rfl dX11_row_7 ?_
  refine x_if_ne F (tgt := 15) dX11_row_10 (by decide) (fun c10 => ?_) (fun c10 => ?_)
  · rw [if_neg c10] at h
    refine x_aload_n F dX11_row_15 rfl 0 rfl ?_
    refine x_iconst F (v := 0) dX11_row_16 (by decide) ?_
    obtain ⟨M17, c17, h⟩ := bdS h
    refine x_putI F (ci := 11) (C := RX11) (T := TX11) (N := 45) rfl ⟨by decide, rfl⟩ inU11 tyX11_ok nmX11 34 (by decide) rfl rfl wl_1155 c17 dX11_row_17 ?_
    refine x_aload_n F dX11_row_20 rfl 0 rfl ?_
    refine x_aload_n F dX11_row_21 rfl 0 rfl ?_
    obtain ⟨x22, c22, h⟩ := bdS h
    refine x_getR F (ci := 11) (C := RX11) (T := TX11) (N := 45) rfl ⟨by decide, rfl⟩ inU11 19 (by decide) (fun _ _ _ => rfl) wl_919 c22 dX11_row_22 ?_
    refine x_iload_n F dX11_row_25 rfl 1 rfl ?_
    obtain ⟨x26, c26, h⟩ := bdS h
    refine x_aL F c26 dX11_row_26 ?_
    obtain ⟨k27, h⟩ := gdS h
    obtain ⟨⟨u27, M27⟩, c27, h⟩ := bdS h
    dsimp only at h
    refine x_callV F (As := [.long x26]) (rest := []) (res := none) (ci := 11) (q := (RX11, TX11, 45)) rfl (by decide) k27 (k_X11_writeWord l b D cy N 8 v0 x26 M17 _ _ c27) wl_1157 wl_1158 wl_1159 wl_854 wl_1156 hd_X11_writeWord ⟨Nat.le_of_ble_eq_true rfl, Nat.le_of_ble_eq_true rfl⟩ ⟨Nat.le_refl _, Nat.le_refl _⟩ (Nat.le_of_ble_eq_true rfl) rfl dX11_row_27 ?_
    refine x_aload_n F dX11_row_30 rfl 0 rfl ?_
    refine x_bipush F (v := 32) dX11_row_31 (by decide) ?_
    obtain ⟨k33, h⟩ := gdS h
    obtain ⟨⟨u33, M33⟩, c33, h⟩ := bdS h
    dsimp only at h
    refine x_callV F (As := [.int 32]) (rest := []) (res := none) (ci := 11) (q := (RX11, TX11, 45)) rfl (by decide) k33 (k_X11_write_ l b D cy N v0 32 M27 _ _ c33) wl_1160 wl_1161 wl_1162 wl_854 wl_1154 hd_X11_write_ ⟨Nat.le_of_ble_eq_true rfl, Nat.le_of_ble_eq_true rfl⟩ ⟨Nat.le_refl _, Nat.le_refl _⟩ (Nat.le_of_ble_eq_true rfl) rfl dX11_row_33 ?_
    refine x_iconst F (v := 0) dX11_row_36 (by decide) ?_
    refine x_istore_n F (lv' := [(2, .int 0), (0, .ref (b + v0)), (1, .int v1)]) dX11_row_37 rfl (by decide) rfl ?_
    have L38 : ∀ (v0 : Nat) (v1 : Int32) (n : Nat) (v2 : Int32) (M : Mem) (o : Int32 × Mem), fX11_row_L38 N v0 v1 n v2 M = some o → (∀ (r' : Int32) (M' : Mem), o = (r', M') → r' = r ∧ M' = Mf) → X p l e ({ frames := 11, cells := 0, slots := 0, locals := 100 * 11 }) s m args below meth c (MQ below (Qm b D cy (some (.int r)) Mf) args s 0 0 (fun q => b ≤ q)) 3 b D cy 0 0 M 38 [(0, .ref (b + v0)), (1, .int v1), (2, .int v2)] [] := by
      intro v0 v1 n
      induction n with
      | zero => intro v2 M o h; exact absurd h (by rw [fX11_row_L38]; exact fun z => by cases z)
      | succ n ih =>
        intro v2 M o h hR
        rw [fX11_row_L38] at h
        refine x_iload_n F dX11_row_38 rfl 2 rfl ?_
        refine x_aload_n F dX11_row_39 rfl 0 rfl ?_
        obtain ⟨x40, c40, h⟩ := bdS h
        refine x_getR F (ci := 11) (C := RX11) (T := TX11) (N := 45) rfl ⟨by decide, rfl⟩ inU11 14 (by decide) (fun _ _ _ => rfl) wl_913 c40 dX11_row_40 ?_
        refine x_bipush F (v := 11) dX11_row_43 (by decide) ?_
        refine x_iload_n F dX11_row_45 rfl 1 rfl ?_
        refine x_iadd F dX11_row_46 ?_
        obtain ⟨x47, c47, h⟩ := bdS h
        refine x_aI F c47 dX11_row_47 ?_
        refine x_icmp_ge F (tgt := 85) dX11_row_48 (by decide) (fun c48 => ?_) (fun c48 => ?_)
        · rw [if_pos c48] at h
          refine x_aload_n F dX11_row_85 rfl 0 rfl ?_
          obtain ⟨x86, c86, h⟩ := bdS h
          refine x_getI F (ci := 11) (C := RX11) (T := TX11) (N := 45) rfl ⟨by decide, rfl⟩ inU11 34 (by decide) (fun _ _ _ => rfl) wl_1155 c86 dX11_row_86 ?_
          obtain rfl := Option.some.inj h
          obtain ⟨rfl, rfl⟩ := hR _ _ rfl
          exact x_iret F hr hl dX11_row_89
        · rw [if_neg c48] at h
          refine x_aload_n F dX11_row_51 rfl 0 rfl ?_
          refine x_aload_n F dX11_row_52 rfl 0 rfl ?_
          refine x_iload_n F dX11_row_53 rfl 1 rfl ?_
          refine x_iload_n F dX11_row_54 rfl 2 rfl ?_
          obtain ⟨k55, h⟩ := gdS h
          obtain ⟨⟨x55, M55⟩, c55, h⟩ := bdS h
          dsimp only at h
          refine x_callV F (As := [.int v1, .int v2]) (rest := [.ref (b + v0)]) (res := (some (.int x55))) (ci := 11) (q := (RX11, TX11, 45)) rfl (by decide) k55 (k_X11_signAt l b D cy N v0 v1 v2 M _ _ c55) wl_1011 wl_1012 wl_1013 wl_854 wl_1002 hd_X11_signAt ⟨Nat.le_of_ble_eq_true rfl, Nat.le_of_ble_eq_true rfl⟩ ⟨Nat.le_refl _, Nat.le_refl _⟩ (Nat.le_of_ble_eq_true rfl) rfl dX11_row_55 ?_
          refine x_iconst F (v := (-1)) dX11_row_58 (by decide) ?_
          refine x_icmp_ne F (tgt := 67) dX11_row_59 (by decide) (fun c59 => ?_) (fun c59 => ?_)
          · rw [if_neg c59] at h
            refine x_bipush F (v := 48) dX11_row_67 (by decide) ?_
            refine x_aload_n F dX11_row_69 rfl 0 rfl ?_
            refine x_iload_n F dX11_row_70 rfl 1 rfl ?_
            refine x_iload_n F dX11_row_71 rfl 2 rfl ?_
            obtain ⟨k72, h⟩ := gdS h
            obtain ⟨⟨x72, M72⟩, c72, h⟩ := bdS h
            dsimp only at h
            refine x_callV F (As := [.int v1, .int v2]) (rest := [.int 48, .ref (b + v0)]) (res := (some (.int x72))) (ci := 11) (q := (RX11, TX11, 45)) rfl (by decide) k72 (k_X11_signAt l b D cy N v0 v1 v2 M55 _ _ c72) wl_1011 wl_1012 wl_1013 wl_854 wl_1002 hd_X11_signAt ⟨Nat.le_of_ble_eq_true rfl, Nat.le_of_ble_eq_true rfl⟩ ⟨Nat.le_refl _, Nat.le_refl _⟩ (Nat.le_of_ble_eq_true rfl) rfl dX11_row_72 ?_
            refine x_iadd F dX11_row_75 ?_
            obtain ⟨k76, h⟩ := gdS h
            obtain ⟨⟨u76, M76⟩, c76, h⟩ := bdS h
            dsimp only at h
            refine x_callV F (As := [.int (48 + x72)]) (rest := []) (res := none) (ci := 11) (q := (RX11, TX11, 45)) rfl (by decide) k76 (k_X11_write_ l b D cy N v0 (48 + x72) M72 _ _ c76) wl_1160 wl_1161 wl_1162 wl_854 wl_1154 hd_X11_write_ ⟨Nat.le_of_ble_eq_true rfl, Nat.le_of_ble_eq_true rfl⟩ ⟨Nat.le_refl _, Nat.le_refl _⟩ (Nat.le_of_ble_eq_true rfl) rfl dX11_row_76 ?_
            refine x_iinc F (v := v2 + 1) (lv' := [(2, .int (v2 + 1)), (0, .ref (b + v0)), (1, .int v1)]) dX11_row_79 2 rfl rfl (by decide) rfl ?_
            refine x_goto F (tgt := 38) dX11_row_82 (by decide) ?_
            refine x_sub [1, 2, 0] rfl ?_
            exact ih (v2 + 1) M76 o h hR
          · rw [if_pos c59] at h
            refine x_bipush F (v := 46) dX11_row_62 (by decide) ?_
            refine x_goto F (tgt := 76) dX11_row_64 (by decide) ?_
            obtain ⟨k76, h⟩ := gdS h
            obtain ⟨⟨u76, M76⟩, c76, h⟩ := bdS h
            dsimp only at h
            refine x_callV F (As := [.int 46]) (rest := []) (res := none) (ci := 11) (q := (RX11, TX11, 45)) rfl (by decide) k76 (k_X11_write_ l b D cy N v0 46 M55 _ _ c76) wl_1160 wl_1161 wl_1162 wl_854 wl_1154 hd_X11_write_ ⟨Nat.le_of_ble_eq_true rfl, Nat.le_of_ble_eq_true rfl⟩ ⟨Nat.le_refl _, Nat.le_refl _⟩ (Nat.le_of_ble_eq_true rfl) rfl dX11_row_76 ?_
            refine x_iinc F (v := v2 + 1) (lv' := [(2, .int (v2 + 1)), (0, .ref (b + v0)), (1, .int v1)]) dX11_row_79 2 rfl rfl (by decide) rfl ?_
            refine x_goto F (tgt := 38) dX11_row_82 (by decide) ?_
            refine x_sub [1, 2, 0] rfl ?_
            exact ih (v2 + 1) M76 o h hR
    obtain ⟨o38, h38, h⟩ := bdS h
    refine x_sub [1, 2, 0] rfl ?_
    refine L38 v0 v1 N 0 M33 o38 h38 (fun r' M' e => ?_)
    · subst e
      try dsimp only at h
      obtain ⟨rfl, rfl⟩ := retS h; exact ⟨rfl, rfl⟩
  · rw [if_pos c10] at h
    refine x_iconst F (v := (-1)) dX11_row_13 (by decide) ?_
    obtain ⟨rfl, rfl⟩ := retS h
    exact x_iret F hr hl dX11_row_14
theorem dX11_byteAt_0 : decode cX11_byteAt 0 = .ok (.aload_n 0, 1) := by decide +kernel
theorem dX11_byteAt_1 : decode cX11_byteAt 1 = .ok (.iconst 0, 1) := by decide +kernel
theorem dX11_byteAt_2 : decode cX11_byteAt 2 = .ok (.putfield 1, 3) := by decide +kernel
theorem dX11_byteAt_5 : decode cX11_byteAt 5 = .ok (.iload_n 1, 1) := by decide +kernel
theorem dX11_byteAt_6 : decode cX11_byteAt 6 = .ok (.iconst 0, 1) := by decide +kernel
theorem dX11_byteAt_7 : decode cX11_byteAt 7 = .ok (.aload_n 0, 1) := by decide +kernel
theorem dX11_byteAt_8 : decode cX11_byteAt 8 = .ok (.getfield 336, 3) := by decide +kernel
theorem dX11_byteAt_11 : decode cX11_byteAt 11 = .ok (.iconst 1, 1) := by decide +kernel
theorem dX11_byteAt_12 : decode cX11_byteAt 12 = .ok (.isub, 1) := by decide +kernel
theorem dX11_byteAt_13 : decode cX11_byteAt 13 = .ok (.invokestatic 75, 3) := by decide +kernel
theorem dX11_byteAt_16 : decode cX11_byteAt 16 = .ok (.ifCond .eq 12, 3) := by decide +kernel
theorem dX11_byteAt_19 : decode cX11_byteAt 19 = .ok (.aload_n 0, 1) := by decide +kernel
theorem dX11_byteAt_20 : decode cX11_byteAt 20 = .ok (.getfield 142, 3) := by decide +kernel
theorem dX11_byteAt_23 : decode cX11_byteAt 23 = .ok (.iload_n 1, 1) := by decide +kernel
theorem dX11_byteAt_24 : decode cX11_byteAt 24 = .ok (.iaload, 1) := by decide +kernel
theorem dX11_byteAt_25 : decode cX11_byteAt 25 = .ok (.goto 4, 3) := by decide +kernel
theorem dX11_byteAt_28 : decode cX11_byteAt 28 = .ok (.iconst (-1), 1) := by decide +kernel
theorem dX11_byteAt_29 : decode cX11_byteAt 29 = .ok (.ireturn, 1) := by decide +kernel
def fX11_byteAt (N : Nat) (v0 : Nat) (v1 : Int32) (M : Mem) : Option (Int32 × Mem) := ((pI M 11 v0 0 0).bind fun M2 => ((fI M2 11 v0 34).bind fun x8 => ((fX11_isIn N v1 0 (x8 - 1) M2).bind fun (x13, M13) => (if x13 = 0 then some ((-1), M13) else ((fR M13 11 v0 33).bind fun x20 => ((aI M13 x20 v1).bind fun x24 => some (x24, M13)))))))
set_option maxHeartbeats 4000000 in
set_option maxRecDepth 100000 in
theorem k_X11_byteAt (l : Launch) (b : Nat) (D : va_G) (cy : Nat → ClassId) (N : Nat) (v0 : Nat) (v1 : Int32) (M : Mem) (r : Int32) (Mf : Mem) (h : fX11_byteAt N v0 v1 M = some (r, Mf)) : Ct l yX11_byteAt cX11_byteAt 2 (some .int) 2 0 0 b D cy [.ref (b + v0), .int v1] M (some (.int r)) Mf := by
  refine Ct_of (own := RX11) (by decide) rfl (Nat.le_of_ble_eq_true rfl) ?_
  intro p e s m args below meth c F hr hl hmn
  unfold fX11_byteAt at h
  show X p l e ({ frames := 2, cells := 0, slots := 0, locals := 100 * 2 }) s m args below meth c (MQ below (Qm b D cy (some (.int r)) Mf) args s 0 0 (fun q => b ≤ q)) 2 b D cy 0 0 M 0 [(0, .ref (b + v0)), (1, .int v1)] []
  refine x_aload_n F dX11_byteAt_0 rfl 0 rfl ?_
  refine x_iconst F (v := 0) dX11_byteAt_1 (by decide) ?_
  obtain ⟨M2, c2, h⟩ := bdS h
  refine x_putI F (ci := 11) (C := RX11) (T := TX11) (N := 45) rfl ⟨by decide, rfl⟩ inU11 tyX11_ok nmX11 0 (by decide) rfl rfl wl_845 c2 dX11_byteAt_2 ?_
  refine x_iload_n F dX11_byteAt_5 rfl 1 rfl ?_
  refine x_iconst F (v := 0) dX11_byteAt_6 (by decide) ?_
  refine x_aload_n F dX11_byteAt_7 rfl 0 rfl ?_
  obtain ⟨x8, c8, h⟩ := bdS h
  refine x_getI F (ci := 11) (C := RX11) (T := TX11) (N := 45) rfl ⟨by decide, rfl⟩ inU11 34 (by decide) (fun _ _ _ => rfl) wl_1155 c8 dX11_byteAt_8 ?_
  refine x_iconst F (v := 1) dX11_byteAt_11 (by decide) ?_
  refine x_isub F dX11_byteAt_12 ?_
  obtain ⟨⟨x13, M13⟩, c13, h⟩ := bdS h
  dsimp only at h
  refine x_callS F (As := [.int v1, .int 0, .int (x8 - 1)]) (rest := []) (res := (some (.int x13))) (k_X11_isIn l b D cy N v1 0 (x8 - 1) M2 _ _ c13) wl_898 wl_899 wl_854 wl_857 (hd_X11_isIn).2 ⟨Nat.le_of_ble_eq_true rfl, Nat.le_of_ble_eq_true rfl⟩ ⟨Nat.le_refl _, Nat.le_refl _⟩ (Nat.le_of_ble_eq_true rfl) rfl dX11_byteAt_13 ?_
  refine x_if_eq F (tgt := 28) dX11_byteAt_16 (by decide) (fun c16 => ?_) (fun c16 => ?_)
  · rw [if_pos c16] at h
    refine x_iconst F (v := (-1)) dX11_byteAt_28 (by decide) ?_
    obtain ⟨rfl, rfl⟩ := retS h
    exact x_iret F hr hl dX11_byteAt_29
  · rw [if_neg c16] at h
    refine x_aload_n F dX11_byteAt_19 rfl 0 rfl ?_
    obtain ⟨x20, c20, h⟩ := bdS h
    refine x_getR F (ci := 11) (C := RX11) (T := TX11) (N := 45) rfl ⟨by decide, rfl⟩ inU11 33 (by decide) (fun _ _ _ => rfl) wl_928 c20 dX11_byteAt_20 ?_
    refine x_iload_n F dX11_byteAt_23 rfl 1 rfl ?_
    obtain ⟨x24, c24, h⟩ := bdS h
    refine x_aI F c24 dX11_byteAt_24 ?_
    refine x_goto F (tgt := 29) dX11_byteAt_25 (by decide) ?_
    obtain ⟨rfl, rfl⟩ := retS h
    exact x_iret F hr hl dX11_byteAt_29
theorem dX11_draw_0 : decode cX11_draw 0 = .ok (.aload_n 0, 1) := by decide +kernel
theorem dX11_draw_1 : decode cX11_draw 1 = .ok (.aload_n 0, 1) := by decide +kernel
theorem dX11_draw_2 : decode cX11_draw 2 = .ok (.getfield 346, 3) := by decide +kernel
theorem dX11_draw_5 : decode cX11_draw 5 = .ok (.ldc_w 349, 3) := by decide +kernel
theorem dX11_draw_8 : decode cX11_draw 8 = .ok (.imul, 1) := by decide +kernel
theorem dX11_draw_9 : decode cX11_draw 9 = .ok (.sipush 12345, 3) := by decide +kernel
theorem dX11_draw_12 : decode cX11_draw 12 = .ok (.iadd, 1) := by decide +kernel
theorem dX11_draw_13 : decode cX11_draw 13 = .ok (.putfield 346, 3) := by decide +kernel
theorem dX11_draw_16 : decode cX11_draw 16 = .ok (.aload_n 0, 1) := by decide +kernel
theorem dX11_draw_17 : decode cX11_draw 17 = .ok (.getfield 346, 3) := by decide +kernel
theorem dX11_draw_20 : decode cX11_draw 20 = .ok (.bipush 8, 2) := by decide +kernel
theorem dX11_draw_22 : decode cX11_draw 22 = .ok (.iushr, 1) := by decide +kernel
theorem dX11_draw_23 : decode cX11_draw 23 = .ok (.iload_n 1, 1) := by decide +kernel
theorem dX11_draw_24 : decode cX11_draw 24 = .ok (.irem, 1) := by decide +kernel
theorem dX11_draw_25 : decode cX11_draw 25 = .ok (.ireturn, 1) := by decide +kernel
def fX11_draw (N : Nat) (v0 : Nat) (v1 : Int32) (M : Mem) : Option (Int32 × Mem) := ((fI M 11 v0 35).bind fun x2 => ((pI M 11 v0 35 ((x2 * ((1103515245))) + 12345)).bind fun M13 => ((fI M13 11 v0 35).bind fun x17 => (if ¬ v1 = 0 then some ((UInt32.toInt32 ((Int32.toUInt32 x17) >>> ((Int32.toUInt32 8) &&& Int32.toUInt32 31))) - (UInt32.toInt32 ((Int32.toUInt32 x17) >>> ((Int32.toUInt32 8) &&& Int32.toUInt32 31))) / v1 * v1, M13) else none))))
set_option maxHeartbeats 4000000 in
set_option maxRecDepth 100000 in
theorem k_X11_draw (l : Launch) (b : Nat) (D : va_G) (cy : Nat → ClassId) (N : Nat) (v0 : Nat) (v1 : Int32) (M : Mem) (r : Int32) (Mf : Mem) (h : fX11_draw N v0 v1 M = some (r, Mf)) : Ct l yX11_draw cX11_draw 2 (some .int) 1 0 0 b D cy [.ref (b + v0), .int v1] M (some (.int r)) Mf := by
  refine Ct_of (own := RX11) (by decide) rfl (Nat.le_of_ble_eq_true rfl) ?_
  intro p e s m args below meth c F hr hl hmn
  unfold fX11_draw at h
  show X p l e ({ frames := 1, cells := 0, slots := 0, locals := 100 * 1 }) s m args below meth c (MQ below (Qm b D cy (some (.int r)) Mf) args s 0 0 (fun q => b ≤ q)) 2 b D cy 0 0 M 0 [(0, .ref (b + v0)), (1, .int v1)] []
  refine x_aload_n F dX11_draw_0 rfl 0 rfl ?_
  refine x_aload_n F dX11_draw_1 rfl 0 rfl ?_
  obtain ⟨x2, c2, h⟩ := bdS h
  refine x_getI F (ci := 11) (C := RX11) (T := TX11) (N := 45) rfl ⟨by decide, rfl⟩ inU11 35 (by decide) (fun _ _ _ => rfl) wl_1166 c2 dX11_draw_2 ?_
  refine x_ldcw F (v := (1103515245)) dX11_draw_5 wl_1167 ?_
  refine x_imul F dX11_draw_8 ?_
  refine x_sipush F (v := 12345) dX11_draw_9 (by decide) ?_
  refine x_iadd F dX11_draw_12 ?_
  obtain ⟨M13, c13, h⟩ := bdS h
  refine x_putI F (ci := 11) (C := RX11) (T := TX11) (N := 45) rfl ⟨by decide, rfl⟩ inU11 tyX11_ok nmX11 35 (by decide) rfl rfl wl_1166 c13 dX11_draw_13 ?_
  refine x_aload_n F dX11_draw_16 rfl 0 rfl ?_
  obtain ⟨x17, c17, h⟩ := bdS h
  refine x_getI F (ci := 11) (C := RX11) (T := TX11) (N := 45) rfl ⟨by decide, rfl⟩ inU11 35 (by decide) (fun _ _ _ => rfl) wl_1166 c17 dX11_draw_17 ?_
  refine x_bipush F (v := 8) dX11_draw_20 (by decide) ?_
  refine x_iushr F dX11_draw_22 ?_
  refine x_iload_n F dX11_draw_23 rfl 1 rfl ?_
  obtain ⟨c24, h⟩ := gdS h
  refine x_irem F dX11_draw_24 c24 ?_
  obtain ⟨rfl, rfl⟩ := retS h
  exact x_iret F hr hl dX11_draw_25
theorem hd_X11_draw : (yX11_draw).cls = RX11 ∧ (yX11_draw).cls ≠ "java/lang/invoke/MethodHandle" ∧ (yX11_draw).cls ≠ "java/lang/invoke/VarHandle" ∧ (parseMethodDescriptor (yX11_draw).desc).map (fun d => d.parameters.length) = some 1 := by decide +kernel
theorem dX11_drawsFor_0 : decode cX11_drawsFor 0 = .ok (.aload_n 0, 1) := by decide +kernel
theorem dX11_drawsFor_1 : decode cX11_drawsFor 1 = .ok (.aload_n 0, 1) := by decide +kernel
theorem dX11_drawsFor_2 : decode cX11_drawsFor 2 = .ok (.getfield 98, 3) := by decide +kernel
theorem dX11_drawsFor_5 : decode cX11_drawsFor 5 = .ok (.iconst 2, 1) := by decide +kernel
theorem dX11_drawsFor_6 : decode cX11_drawsFor 6 = .ok (.iaload, 1) := by decide +kernel
theorem dX11_drawsFor_7 : decode cX11_drawsFor 7 = .ok (.invokevirtual 350, 3) := by decide +kernel
theorem dX11_drawsFor_10 : decode cX11_drawsFor 10 = .ok (.istore_n 2, 1) := by decide +kernel
theorem dX11_drawsFor_11 : decode cX11_drawsFor 11 = .ok (.aload_n 0, 1) := by decide +kernel
theorem dX11_drawsFor_12 : decode cX11_drawsFor 12 = .ok (.aload_n 0, 1) := by decide +kernel
theorem dX11_drawsFor_13 : decode cX11_drawsFor 13 = .ok (.getfield 98, 3) := by decide +kernel
theorem dX11_drawsFor_16 : decode cX11_drawsFor 16 = .ok (.iconst 0, 1) := by decide +kernel
theorem dX11_drawsFor_17 : decode cX11_drawsFor 17 = .ok (.iaload, 1) := by decide +kernel
theorem dX11_drawsFor_18 : decode cX11_drawsFor 18 = .ok (.invokevirtual 350, 3) := by decide +kernel
theorem dX11_drawsFor_21 : decode cX11_drawsFor 21 = .ok (.istore_n 3, 1) := by decide +kernel
theorem dX11_drawsFor_22 : decode cX11_drawsFor 22 = .ok (.aload_n 0, 1) := by decide +kernel
theorem dX11_drawsFor_23 : decode cX11_drawsFor 23 = .ok (.bipush 12, 2) := by decide +kernel
theorem dX11_drawsFor_25 : decode cX11_drawsFor 25 = .ok (.invokevirtual 350, 3) := by decide +kernel
theorem dX11_drawsFor_28 : decode cX11_drawsFor 28 = .ok (.istore 4, 2) := by decide +kernel
theorem dX11_drawsFor_30 : decode cX11_drawsFor 30 = .ok (.iconst 0, 1) := by decide +kernel
theorem dX11_drawsFor_31 : decode cX11_drawsFor 31 = .ok (.istore 5, 2) := by decide +kernel
theorem dX11_drawsFor_33 : decode cX11_drawsFor 33 = .ok (.iload 5, 2) := by decide +kernel
theorem dX11_drawsFor_35 : decode cX11_drawsFor 35 = .ok (.aload_n 0, 1) := by decide +kernel
theorem dX11_drawsFor_36 : decode cX11_drawsFor 36 = .ok (.iload_n 2, 1) := by decide +kernel
theorem dX11_drawsFor_37 : decode cX11_drawsFor 37 = .ok (.invokevirtual 216, 3) := by decide +kernel
theorem dX11_drawsFor_40 : decode cX11_drawsFor 40 = .ok (.if_icmp .ge 54, 3) := by decide +kernel
theorem dX11_drawsFor_43 : decode cX11_drawsFor 43 = .ok (.aload_n 0, 1) := by decide +kernel
theorem dX11_drawsFor_44 : decode cX11_drawsFor 44 = .ok (.iload_n 3, 1) := by decide +kernel
theorem dX11_drawsFor_45 : decode cX11_drawsFor 45 = .ok (.iload 4, 2) := by decide +kernel
theorem dX11_drawsFor_47 : decode cX11_drawsFor 47 = .ok (.iload 5, 2) := by decide +kernel
theorem dX11_drawsFor_49 : decode cX11_drawsFor 49 = .ok (.iadd, 1) := by decide +kernel
theorem dX11_drawsFor_50 : decode cX11_drawsFor 50 = .ok (.invokevirtual 255, 3) := by decide +kernel
theorem dX11_drawsFor_53 : decode cX11_drawsFor 53 = .ok (.ifCond .eq 41, 3) := by decide +kernel
theorem dX11_drawsFor_56 : decode cX11_drawsFor 56 = .ok (.aload_n 0, 1) := by decide +kernel
theorem dX11_drawsFor_57 : decode cX11_drawsFor 57 = .ok (.iload_n 1, 1) := by decide +kernel
theorem dX11_drawsFor_58 : decode cX11_drawsFor 58 = .ok (.iload_n 3, 1) := by decide +kernel
theorem dX11_drawsFor_59 : decode cX11_drawsFor 59 = .ok (.iload 4, 2) := by decide +kernel
theorem dX11_drawsFor_61 : decode cX11_drawsFor 61 = .ok (.iload 5, 2) := by decide +kernel
theorem dX11_drawsFor_63 : decode cX11_drawsFor 63 = .ok (.iadd, 1) := by decide +kernel
theorem dX11_drawsFor_64 : decode cX11_drawsFor 64 = .ok (.invokevirtual 270, 3) := by decide +kernel
theorem dX11_drawsFor_67 : decode cX11_drawsFor 67 = .ok (.ifCond .ne 21, 3) := by decide +kernel
theorem dX11_drawsFor_70 : decode cX11_drawsFor 70 = .ok (.aload_n 0, 1) := by decide +kernel
theorem dX11_drawsFor_71 : decode cX11_drawsFor 71 = .ok (.iload_n 1, 1) := by decide +kernel
theorem dX11_drawsFor_72 : decode cX11_drawsFor 72 = .ok (.iload_n 3, 1) := by decide +kernel
theorem dX11_drawsFor_73 : decode cX11_drawsFor 73 = .ok (.iload 4, 2) := by decide +kernel
theorem dX11_drawsFor_75 : decode cX11_drawsFor 75 = .ok (.iload 5, 2) := by decide +kernel
theorem dX11_drawsFor_77 : decode cX11_drawsFor 77 = .ok (.iadd, 1) := by decide +kernel
theorem dX11_drawsFor_78 : decode cX11_drawsFor 78 = .ok (.aload_n 0, 1) := by decide +kernel
theorem dX11_drawsFor_79 : decode cX11_drawsFor 79 = .ok (.iload_n 2, 1) := by decide +kernel
theorem dX11_drawsFor_80 : decode cX11_drawsFor 80 = .ok (.iload 5, 2) := by decide +kernel
theorem dX11_drawsFor_82 : decode cX11_drawsFor 82 = .ok (.invokevirtual 223, 3) := by decide +kernel
theorem dX11_drawsFor_85 : decode cX11_drawsFor 85 = .ok (.invokevirtual 276, 3) := by decide +kernel
theorem dX11_drawsFor_88 : decode cX11_drawsFor 88 = .ok (.iinc 5 1, 3) := by decide +kernel
theorem dX11_drawsFor_91 : decode cX11_drawsFor 91 = .ok (.goto (-58), 3) := by decide +kernel
theorem dX11_drawsFor_94 : decode cX11_drawsFor 94 = .ok (.return_, 1) := by decide +kernel
def fX11_drawsFor_L33 (N : Nat) (v0 : Nat) (v1 : Int32) (v2 : Int32) (v3 : Int32) (v4 : Int32) : Nat → Int32 → Mem → Option (Mem)
  | 0, _, _ => none
  | n + 1, v5, M => (if mK M v0 = 12 then ((fX11_longOf N v0 v2 M).bind fun (x37, M37) => (if x37 ≤ v5 then some M37 else (if mK M37 v0 = 12 then ((fX11_isPlace N v0 v3 (v4 + v5) M37).bind fun (x50, M50) => (if x50 = 0 then some M50 else (if mK M50 v0 = 12 then ((fX11_whyWrite N v0 v1 v3 (v4 + v5) M50).bind fun (x64, M64) => (if x64 = 0 then (if mK M64 v0 = 12 then ((fX11_signOf N v0 v2 v5 M64).bind fun (x82, M82) => (if mK M82 v0 = 12 then ((fX11_doWrite N v0 v1 v3 (v4 + v5) x82 M82).bind fun (u85, M85) => fX11_drawsFor_L33 N v0 v1 v2 v3 v4 n (v5 + 1) M85) else none)) else none) else fX11_drawsFor_L33 N v0 v1 v2 v3 v4 n (v5 + 1) M64)) else none))) else none))) else none)
def fX11_drawsFor (N : Nat) (v0 : Nat) (v1 : Int32) (M : Mem) : Option (Unit × Mem) := ((fR M 11 v0 14).bind fun x2 => ((aI M x2 2).bind fun x6 => (if mK M v0 = 12 then ((fX11_draw N v0 x6 M).bind fun (x7, M7) => ((fR M7 11 v0 14).bind fun x13 => ((aI M7 x13 0).bind fun x17 => (if mK M7 v0 = 12 then ((fX11_draw N v0 x17 M7).bind fun (x18, M18) => (if mK M18 v0 = 12 then ((fX11_draw N v0 12 M18).bind fun (x25, M25) => ((fX11_drawsFor_L33 N v0 v1 x7 x18 x25 N 0 M25).bind fun o33 => some ((), o33))) else none)) else none)))) else none)))
set_option maxHeartbeats 4000000 in
set_option maxRecDepth 100000 in
theorem k_X11_drawsFor (l : Launch) (b : Nat) (D : va_G) (cy : Nat → ClassId) (N : Nat) (v0 : Nat) (v1 : Int32) (M : Mem) (r : Unit) (Mf : Mem) (h : fX11_drawsFor N v0 v1 M = some (r, Mf)) : Ct l yX11_drawsFor cX11_drawsFor 6 none 3 0 0 b D cy [.ref (b + v0), .int v1] M none Mf := by
  refine Ct_of (own := RX11) (by decide) rfl (Nat.le_of_ble_eq_true rfl) ?_
  intro p e s m args below meth c F hr hl hmn
  unfold fX11_drawsFor at h
  show X p l e ({ frames := 3, cells := 0, slots := 0, locals := 100 * 3 }) s m args below meth c (MQ below (Qm b D cy none Mf) args s 0 0 (fun q => b ≤ q)) 6 b D cy 0 0 M 0 [(0, .ref (b + v0)), (1, .int v1)] []
  refine x_aload_n F dX11_drawsFor_0 rfl 0 rfl ?_
  refine x_aload_n F dX11_drawsFor_1 rfl 0 rfl ?_
  obtain ⟨x2, c2, h⟩ := bdS h
  refine x_getR F (ci := 11) (C := RX11) (T := TX11) (N := 45) rfl ⟨by decide, rfl⟩ inU11 14 (by decide) (fun _ _ _ => rfl) wl_913 c2 dX11_drawsFor_2 ?_
  refine x_iconst F (v := 2) dX11_drawsFor_5 (by decide) ?_
  obtain ⟨x6, c6, h⟩ := bdS h
  refine x_aI F c6 dX11_drawsFor_6 ?_
  obtain ⟨k7, h⟩ := gdS h
  obtain ⟨⟨x7, M7⟩, c7, h⟩ := bdS h
  dsimp only at h
  refine x_callV F (As := [.int x6]) (rest := []) (res := (some (.int x7))) (ci := 11) (q := (RX11, TX11, 45)) rfl (by decide) k7 (k_X11_draw l b D cy N v0 x6 M _ _ c7) wl_1168 wl_1169 wl_1170 wl_854 wl_1165 hd_X11_draw ⟨Nat.le_of_ble_eq_true rfl, Nat.le_of_ble_eq_true rfl⟩ ⟨Nat.le_refl _, Nat.le_refl _⟩ (Nat.le_of_ble_eq_true rfl) rfl dX11_drawsFor_7 ?_
  refine x_istore_n F (lv' := [(2, .int x7), (0, .ref (b + v0)), (1, .int v1)]) dX11_drawsFor_10 rfl (by decide) rfl ?_
  refine x_aload_n F dX11_drawsFor_11 rfl 1 rfl ?_
  refine x_aload_n F dX11_drawsFor_12 rfl 1 rfl ?_
  obtain ⟨x13, c13, h⟩ := bdS h
  refine x_getR F (ci := 11) (C := RX11) (T := TX11) (N := 45) rfl ⟨by decide, rfl⟩ inU11 14 (by decide) (fun _ _ _ => rfl) wl_913 c13 dX11_drawsFor_13 ?_
  refine x_iconst F (v := 0) dX11_drawsFor_16 (by decide) ?_
  obtain ⟨x17, c17, h⟩ := bdS h
  refine x_aI F c17 dX11_drawsFor_17 ?_
  obtain ⟨k18, h⟩ := gdS h
  obtain ⟨⟨x18, M18⟩, c18, h⟩ := bdS h
  dsimp only at h
  refine x_callV F (As := [.int x17]) (rest := []) (res := (some (.int x18))) (ci := 11) (q := (RX11, TX11, 45)) rfl (by decide) k18 (k_X11_draw l b D cy N v0 x17 M7 _ _ c18) wl_1168 wl_1169 wl_1170 wl_854 wl_1165 hd_X11_draw ⟨Nat.le_of_ble_eq_true rfl, Nat.le_of_ble_eq_true rfl⟩ ⟨Nat.le_refl _, Nat.le_refl _⟩ (Nat.le_of_ble_eq_true rfl) rfl dX11_drawsFor_18 ?_
  refine x_istore_n F (lv' := [(3, .int x18), (2, .int x7), (0, .ref (b + v0)), (1, .int v1)]) dX11_drawsFor_21 rfl (by decide) rfl ?_
  refine x_aload_n F dX11_drawsFor_22 rfl 2 rfl ?_
  refine x_bipush F (v := 12) dX11_drawsFor_23 (by decide) ?_
  obtain ⟨k25, h⟩ := gdS h
  obtain ⟨⟨x25, M25⟩, c25, h⟩ := bdS h
  dsimp only at h
  refine x_callV F (As := [.int 12]) (rest := []) (res := (some (.int x25))) (ci := 11) (q := (RX11, TX11, 45)) rfl (by decide) k25 (k_X11_draw l b D cy N v0 12 M18 _ _ c25) wl_1168 wl_1169 wl_1170 wl_854 wl_1165 hd_X11_draw ⟨Nat.le_of_ble_eq_true rfl, Nat.le_of_ble_eq_true rfl⟩ ⟨Nat.le_refl _, Nat.le_refl _⟩ (Nat.le_of_ble_eq_true rfl) rfl dX11_drawsFor_25 ?_
  refine x_istore F (lv' := [(4, .int x25), (3, .int x18), (2, .int x7), (0, .ref (b + v0)), (1, .int v1)]) dX11_drawsFor_28 (by decide) rfl ?_
  refine x_iconst F (v := 0) dX11_drawsFor_30 (by decide) ?_
  refine x_istore F (lv' := [(5, .int 0), (4, .int x25), (3, .int x18), (2, .int x7), (0, .ref (b + v0)), (1, .int v1)]) dX11_drawsFor_31 (by decide) rfl ?_
  have L33 : ∀ (v0 : Nat) (v1 : Int32) (v2 : Int32) (v3 : Int32) (v4 : Int32) (n : Nat) (v5 : Int32) (M : Mem) (o : Mem), fX11_drawsFor_L33 N v0 v1 v2 v3 v4 n v5 M = some o → X p l e ({ frames := 3, cells := 0, slots := 0, locals := 100 * 3 }) s m args below meth c (MQ below (Qm b D cy none Mf) args s 0 0 (fun q => b ≤ q)) 6 b D cy 0 0 o 94 [] [] → X p l e ({ frames := 3, cells := 0, slots := 0, locals := 100 * 3 }) s m args below meth c (MQ below (Qm b D cy none Mf) args s 0 0 (fun q => b ≤ q)) 6 b D cy 0 0 M 33 [(0, .ref (b + v0)), (1, .int v1), (2, .int v2), (3, .int v3), (4, .int v4), (5, .int v5)] [] := by
    intro v0 v1 v2 v3 v4 n
    induction n with
    | zero => intro v5 M o h; exact absurd h (by rw [fX11_drawsFor_L33]; exact fun z => by cases z)
    | succ n ih =>
      intro v5 M o h hE
      rw [fX11_drawsFor_L33] at h
      refine x_iload F dX11_drawsFor_33 5 rfl ?_
      refine x_aload_n F dX11_drawsFor_35 rfl 0 rfl ?_
      refine x_iload_n F dX11_drawsFor_36 rfl 2 rfl ?_
      obtain ⟨k37, h⟩ := gdS h
      obtain ⟨⟨x37, M37⟩, c37, h⟩ := bdS h
      dsimp only at h
      refine x_callV F (As := [.int v2]) (rest := [.int v5]) (res := (some (.int x37))) (ci := 11) (q := (RX11, TX11, 45)) rfl (by decide) k37 (k_X11_longOf l b D cy N v0 v2 M _ _ c37) wl_1005 wl_1006 wl_1007 wl_854 wl_1003 hd_X11_longOf ⟨Nat.le_of_ble_eq_true rfl, Nat.le_of_ble_eq_true rfl⟩ ⟨Nat.le_refl _, Nat.le_refl _⟩ (Nat.le_of_ble_eq_true rfl) rfl dX11_drawsFor_37 ?_
      refine x_icmp_ge F (tgt := 94) dX11_drawsFor_40 (by decide) (fun c40 => ?_) (fun c40 => ?_)
      · rw [if_pos c40] at h
        obtain rfl := Option.some.inj h
        refine x_sub [] rfl ?_
        exact hE
      · rw [if_neg c40] at h
        refine x_aload_n F dX11_drawsFor_43 rfl 0 rfl ?_
        refine x_iload_n F dX11_drawsFor_44 rfl 3 rfl ?_
        refine x_iload F dX11_drawsFor_45 4 rfl ?_
        refine x_iload F dX11_drawsFor_47 5 rfl ?_
        refine x_iadd F dX11_drawsFor_49 ?_
        obtain ⟨k50, h⟩ := gdS h
        obtain ⟨⟨x50, M50⟩, c50, h⟩ := bdS h
        dsimp only at h
        refine x_callV F (As := [.int v3, .int (v4 + v5)]) (rest := []) (res := (some (.int x50))) (ci := 11) (q := (RX11, TX11, 45)) rfl (by decide) k50 (k_X11_isPlace l b D cy N v0 v3 (v4 + v5) M37 _ _ c50) wl_1050 wl_1051 wl_1052 wl_854 wl_1001 hd_X11_isPlace ⟨Nat.le_of_ble_eq_true rfl, Nat.le_of_ble_eq_true rfl⟩ ⟨Nat.le_refl _, Nat.le_refl _⟩ (Nat.le_of_ble_eq_true rfl) rfl dX11_drawsFor_50 ?_
        refine x_if_eq F (tgt := 94) dX11_drawsFor_53 (by decide) (fun c53 => ?_) (fun c53 => ?_)
        · rw [if_pos c53] at h
          obtain rfl := Option.some.inj h
          refine x_sub [] rfl ?_
          exact hE
        · rw [if_neg c53] at h
          refine x_aload_n F dX11_drawsFor_56 rfl 0 rfl ?_
          refine x_iload_n F dX11_drawsFor_57 rfl 1 rfl ?_
          refine x_iload_n F dX11_drawsFor_58 rfl 3 rfl ?_
          refine x_iload F dX11_drawsFor_59 4 rfl ?_
          refine x_iload F dX11_drawsFor_61 5 rfl ?_
          refine x_iadd F dX11_drawsFor_63 ?_
          obtain ⟨k64, h⟩ := gdS h
          obtain ⟨⟨x64, M64⟩, c64, h⟩ := bdS h
          dsimp only at h
          refine x_callV F (As := [.int v1, .int v3, .int (v4 + v5)]) (rest := []) (res := (some (.int x64))) (ci := 11) (q := (RX11, TX11, 45)) rfl (by decide) k64 (k_X11_whyWrite l b D cy N v0 v1 v3 (v4 + v5) M50 _ _ c64) wl_1074 wl_1075 wl_1076 wl_854 wl_1070 hd_X11_whyWrite ⟨Nat.le_of_ble_eq_true rfl, Nat.le_of_ble_eq_true rfl⟩ ⟨Nat.le_refl _, Nat.le_refl _⟩ (Nat.le_of_ble_eq_true rfl) rfl dX11_drawsFor_64 ?_
          refine x_if_ne F (tgt := 88) dX11_drawsFor_67 (by decide) (fun c67 => ?_) (fun c67 => ?_)
          · rw [if_neg c67] at h
            refine x_iinc F (v := v5 + 1) (lv' := [(5, .int (v5 + 1)), (0, .ref (b + v0)), (1, .int v1), (2, .int v2), (3, .int v3), (4, .int v4)]) dX11_drawsFor_88 5 rfl rfl (by decide) rfl ?_
            refine x_goto F (tgt := 33) dX11_drawsFor_91 (by decide) ?_
            refine x_sub [1, 2, 3, 4, 5, 0] rfl ?_
            exact ih (v5 + 1) M64 o h hE
          · rw [if_pos c67] at h
            refine x_aload_n F dX11_drawsFor_70 rfl 0 rfl ?_
            refine x_iload_n F dX11_drawsFor_71 rfl 1 rfl ?_
            refine x_iload_n F dX11_drawsFor_72 rfl 3 rfl ?_
            refine x_iload F dX11_drawsFor_73 4 rfl ?_
            refine x_iload F dX11_drawsFor_75 5 rfl ?_
            refine x_iadd F dX11_drawsFor_77 ?_
            refine x_aload_n F dX11_drawsFor_78 rfl 0 rfl ?_
            refine x_iload_n F dX11_drawsFor_79 rfl 2 rfl ?_
            refine x_iload F dX11_drawsFor_80 5 rfl ?_
            obtain ⟨k82, h⟩ := gdS h
            obtain ⟨⟨x82, M82⟩, c82, h⟩ := bdS h
            dsimp only at h
            refine x_callV F (As := [.int v2, .int v5]) (rest := [.int (v4 + v5), .int v3, .int v1, .ref (b + v0)]) (res := (some (.int x82))) (ci := 11) (q := (RX11, TX11, 45)) rfl (by decide) k82 (k_X11_signOf l b D cy N v0 v2 v5 M64 _ _ c82) wl_1014 wl_1015 wl_1016 wl_854 wl_1004 hd_X11_signOf ⟨Nat.le_of_ble_eq_true rfl, Nat.le_of_ble_eq_true rfl⟩ ⟨Nat.le_refl _, Nat.le_refl _⟩ (Nat.le_of_ble_eq_true rfl) rfl dX11_drawsFor_82 ?_
            obtain ⟨k85, h⟩ := gdS h
            obtain ⟨⟨u85, M85⟩, c85, h⟩ := bdS h
            dsimp only at h
            refine x_callV F (As := [.int v1, .int v3, .int (v4 + v5), .int x82]) (rest := []) (res := none) (ci := 11) (q := (RX11, TX11, 45)) rfl (by decide) k85 (k_X11_doWrite l b D cy N v0 v1 v3 (v4 + v5) x82 M82 _ _ c85) wl_1080 wl_1081 wl_1082 wl_854 wl_1071 hd_X11_doWrite ⟨Nat.le_of_ble_eq_true rfl, Nat.le_of_ble_eq_true rfl⟩ ⟨Nat.le_refl _, Nat.le_refl _⟩ (Nat.le_of_ble_eq_true rfl) rfl dX11_drawsFor_85 ?_
            refine x_iinc F (v := v5 + 1) (lv' := [(5, .int (v5 + 1)), (0, .ref (b + v0)), (1, .int v1), (2, .int v2), (3, .int v3), (4, .int v4)]) dX11_drawsFor_88 5 rfl rfl (by decide) rfl ?_
            refine x_goto F (tgt := 33) dX11_drawsFor_91 (by decide) ?_
            refine x_sub [1, 2, 3, 4, 5, 0] rfl ?_
            exact ih (v5 + 1) M85 o h hE
  obtain ⟨o33, h33, h⟩ := bdS h
  refine x_sub [4, 5, 3, 2, 1, 0] rfl ?_
  refine L33 v0 v1 x7 x18 x25 N 0 M25 o33 h33 ?_
  obtain ⟨rfl, rfl⟩ := retS h
  exact x_vret F hr hl dX11_drawsFor_94
theorem dX11_drawsTread_0 : decode cX11_drawsTread 0 = .ok (.aload_n 0, 1) := by decide +kernel
theorem dX11_drawsTread_1 : decode cX11_drawsTread 1 = .ok (.aload_n 0, 1) := by decide +kernel
theorem dX11_drawsTread_2 : decode cX11_drawsTread 2 = .ok (.getfield 98, 3) := by decide +kernel
theorem dX11_drawsTread_5 : decode cX11_drawsTread 5 = .ok (.iconst 0, 1) := by decide +kernel
theorem dX11_drawsTread_6 : decode cX11_drawsTread 6 = .ok (.iaload, 1) := by decide +kernel
theorem dX11_drawsTread_7 : decode cX11_drawsTread 7 = .ok (.invokevirtual 350, 3) := by decide +kernel
theorem dX11_drawsTread_10 : decode cX11_drawsTread 10 = .ok (.istore_n 1, 1) := by decide +kernel
theorem dX11_drawsTread_11 : decode cX11_drawsTread 11 = .ok (.aload_n 0, 1) := by decide +kernel
theorem dX11_drawsTread_12 : decode cX11_drawsTread 12 = .ok (.bipush 12, 2) := by decide +kernel
theorem dX11_drawsTread_14 : decode cX11_drawsTread 14 = .ok (.invokevirtual 350, 3) := by decide +kernel
theorem dX11_drawsTread_17 : decode cX11_drawsTread 17 = .ok (.istore_n 2, 1) := by decide +kernel
theorem dX11_drawsTread_18 : decode cX11_drawsTread 18 = .ok (.aload_n 0, 1) := by decide +kernel
theorem dX11_drawsTread_19 : decode cX11_drawsTread 19 = .ok (.iload_n 1, 1) := by decide +kernel
theorem dX11_drawsTread_20 : decode cX11_drawsTread 20 = .ok (.iload_n 2, 1) := by decide +kernel
theorem dX11_drawsTread_21 : decode cX11_drawsTread 21 = .ok (.invokevirtual 255, 3) := by decide +kernel
theorem dX11_drawsTread_24 : decode cX11_drawsTread 24 = .ok (.ifCond .eq 18, 3) := by decide +kernel
theorem dX11_drawsTread_27 : decode cX11_drawsTread 27 = .ok (.aload_n 0, 1) := by decide +kernel
theorem dX11_drawsTread_28 : decode cX11_drawsTread 28 = .ok (.iload_n 1, 1) := by decide +kernel
theorem dX11_drawsTread_29 : decode cX11_drawsTread 29 = .ok (.iload_n 2, 1) := by decide +kernel
theorem dX11_drawsTread_30 : decode cX11_drawsTread 30 = .ok (.invokevirtual 280, 3) := by decide +kernel
theorem dX11_drawsTread_33 : decode cX11_drawsTread 33 = .ok (.ifCond .ne 9, 3) := by decide +kernel
theorem dX11_drawsTread_36 : decode cX11_drawsTread 36 = .ok (.aload_n 0, 1) := by decide +kernel
theorem dX11_drawsTread_37 : decode cX11_drawsTread 37 = .ok (.iload_n 1, 1) := by decide +kernel
theorem dX11_drawsTread_38 : decode cX11_drawsTread 38 = .ok (.iload_n 2, 1) := by decide +kernel
theorem dX11_drawsTread_39 : decode cX11_drawsTread 39 = .ok (.invokevirtual 283, 3) := by decide +kernel
theorem dX11_drawsTread_42 : decode cX11_drawsTread 42 = .ok (.return_, 1) := by decide +kernel
def fX11_drawsTread (N : Nat) (v0 : Nat) (M : Mem) : Option (Unit × Mem) := ((fR M 11 v0 14).bind fun x2 => ((aI M x2 0).bind fun x6 => (if mK M v0 = 12 then ((fX11_draw N v0 x6 M).bind fun (x7, M7) => (if mK M7 v0 = 12 then ((fX11_draw N v0 12 M7).bind fun (x14, M14) => (if mK M14 v0 = 12 then ((fX11_isPlace N v0 x7 x14 M14).bind fun (x21, M21) => (if x21 = 0 then some ((), M21) else (if mK M21 v0 = 12 then ((fX11_whyTread N v0 x7 x14 M21).bind fun (x30, M30) => (if x30 = 0 then (if mK M30 v0 = 12 then ((fX11_doTread N v0 x7 x14 M30).bind fun (u39, M39) => some ((), M39)) else none) else some ((), M30))) else none))) else none)) else none)) else none)))
set_option maxHeartbeats 4000000 in
set_option maxRecDepth 100000 in
theorem k_X11_drawsTread (l : Launch) (b : Nat) (D : va_G) (cy : Nat → ClassId) (N : Nat) (v0 : Nat) (M : Mem) (r : Unit) (Mf : Mem) (h : fX11_drawsTread N v0 M = some (r, Mf)) : Ct l yX11_drawsTread cX11_drawsTread 3 none 3 0 0 b D cy [.ref (b + v0)] M none Mf := by
  refine Ct_of (own := RX11) (by decide) rfl (Nat.le_of_ble_eq_true rfl) ?_
  intro p e s m args below meth c F hr hl hmn
  unfold fX11_drawsTread at h
  show X p l e ({ frames := 3, cells := 0, slots := 0, locals := 100 * 3 }) s m args below meth c (MQ below (Qm b D cy none Mf) args s 0 0 (fun q => b ≤ q)) 3 b D cy 0 0 M 0 [(0, .ref (b + v0))] []
  refine x_aload_n F dX11_drawsTread_0 rfl 0 rfl ?_
  refine x_aload_n F dX11_drawsTread_1 rfl 0 rfl ?_
  obtain ⟨x2, c2, h⟩ := bdS h
  refine x_getR F (ci := 11) (C := RX11) (T := TX11) (N := 45) rfl ⟨by decide, rfl⟩ inU11 14 (by decide) (fun _ _ _ => rfl) wl_913 c2 dX11_drawsTread_2 ?_
  refine x_iconst F (v := 0) dX11_drawsTread_5 (by decide) ?_
  obtain ⟨x6, c6, h⟩ := bdS h
  refine x_aI F c6 dX11_drawsTread_6 ?_
  obtain ⟨k7, h⟩ := gdS h
  obtain ⟨⟨x7, M7⟩, c7, h⟩ := bdS h
  dsimp only at h
  refine x_callV F (As := [.int x6]) (rest := []) (res := (some (.int x7))) (ci := 11) (q := (RX11, TX11, 45)) rfl (by decide) k7 (k_X11_draw l b D cy N v0 x6 M _ _ c7) wl_1168 wl_1169 wl_1170 wl_854 wl_1165 hd_X11_draw ⟨Nat.le_of_ble_eq_true rfl, Nat.le_of_ble_eq_true rfl⟩ ⟨Nat.le_refl _, Nat.le_refl _⟩ (Nat.le_of_ble_eq_true rfl) rfl dX11_drawsTread_7 ?_
  refine x_istore_n F (lv' := [(1, .int x7), (0, .ref (b + v0))]) dX11_drawsTread_10 rfl (by decide) rfl ?_
  refine x_aload_n F dX11_drawsTread_11 rfl 1 rfl ?_
  refine x_bipush F (v := 12) dX11_drawsTread_12 (by decide) ?_
  obtain ⟨k14, h⟩ := gdS h
  obtain ⟨⟨x14, M14⟩, c14, h⟩ := bdS h
  dsimp only at h
  refine x_callV F (As := [.int 12]) (rest := []) (res := (some (.int x14))) (ci := 11) (q := (RX11, TX11, 45)) rfl (by decide) k14 (k_X11_draw l b D cy N v0 12 M7 _ _ c14) wl_1168 wl_1169 wl_1170 wl_854 wl_1165 hd_X11_draw ⟨Nat.le_of_ble_eq_true rfl, Nat.le_of_ble_eq_true rfl⟩ ⟨Nat.le_refl _, Nat.le_refl _⟩ (Nat.le_of_ble_eq_true rfl) rfl dX11_drawsTread_14 ?_
  refine x_istore_n F (lv' := [(2, .int x14), (1, .int x7), (0, .ref (b + v0))]) dX11_drawsTread_17 rfl (by decide) rfl ?_
  refine x_aload_n F dX11_drawsTread_18 rfl 2 rfl ?_
  refine x_iload_n F dX11_drawsTread_19 rfl 1 rfl ?_
  refine x_iload_n F dX11_drawsTread_20 rfl 0 rfl ?_
  obtain ⟨k21, h⟩ := gdS h
  obtain ⟨⟨x21, M21⟩, c21, h⟩ := bdS h
  dsimp only at h
  refine x_callV F (As := [.int x7, .int x14]) (rest := []) (res := (some (.int x21))) (ci := 11) (q := (RX11, TX11, 45)) rfl (by decide) k21 (k_X11_isPlace l b D cy N v0 x7 x14 M14 _ _ c21) wl_1050 wl_1051 wl_1052 wl_854 wl_1001 hd_X11_isPlace ⟨Nat.le_of_ble_eq_true rfl, Nat.le_of_ble_eq_true rfl⟩ ⟨Nat.le_refl _, Nat.le_refl _⟩ (Nat.le_of_ble_eq_true rfl) rfl dX11_drawsTread_21 ?_
  refine x_if_eq F (tgt := 42) dX11_drawsTread_24 (by decide) (fun c24 => ?_) (fun c24 => ?_)
  · rw [if_pos c24] at h
    obtain ⟨rfl, rfl⟩ := retS h
    exact x_vret F hr hl dX11_drawsTread_42
  · rw [if_neg c24] at h
    refine x_aload_n F dX11_drawsTread_27 rfl 2 rfl ?_
    refine x_iload_n F dX11_drawsTread_28 rfl 1 rfl ?_
    refine x_iload_n F dX11_drawsTread_29 rfl 0 rfl ?_
    obtain ⟨k30, h⟩ := gdS h
    obtain ⟨⟨x30, M30⟩, c30, h⟩ := bdS h
    dsimp only at h
    refine x_callV F (As := [.int x7, .int x14]) (rest := []) (res := (some (.int x30))) (ci := 11) (q := (RX11, TX11, 45)) rfl (by decide) k30 (k_X11_whyTread l b D cy N v0 x7 x14 M21 _ _ c30) wl_1084 wl_1085 wl_1086 wl_854 wl_1072 hd_X11_whyTread ⟨Nat.le_of_ble_eq_true rfl, Nat.le_of_ble_eq_true rfl⟩ ⟨Nat.le_refl _, Nat.le_refl _⟩ (Nat.le_of_ble_eq_true rfl) rfl dX11_drawsTread_30 ?_
    refine x_if_ne F (tgt := 42) dX11_drawsTread_33 (by decide) (fun c33 => ?_) (fun c33 => ?_)
    · rw [if_neg c33] at h
      obtain ⟨rfl, rfl⟩ := retS h
      exact x_vret F hr hl dX11_drawsTread_42
    · rw [if_pos c33] at h
      refine x_aload_n F dX11_drawsTread_36 rfl 2 rfl ?_
      refine x_iload_n F dX11_drawsTread_37 rfl 1 rfl ?_
      refine x_iload_n F dX11_drawsTread_38 rfl 0 rfl ?_
      obtain ⟨k39, h⟩ := gdS h
      obtain ⟨⟨u39, M39⟩, c39, h⟩ := bdS h
      dsimp only at h
      refine x_callV F (As := [.int x7, .int x14]) (rest := []) (res := none) (ci := 11) (q := (RX11, TX11, 45)) rfl (by decide) k39 (k_X11_doTread l b D cy N v0 x7 x14 M30 _ _ c39) wl_1087 wl_1088 wl_1089 wl_854 wl_1073 hd_X11_doTread ⟨Nat.le_of_ble_eq_true rfl, Nat.le_of_ble_eq_true rfl⟩ ⟨Nat.le_refl _, Nat.le_refl _⟩ (Nat.le_of_ble_eq_true rfl) rfl dX11_drawsTread_39 ?_
      obtain ⟨rfl, rfl⟩ := retS h
      exact x_vret F hr hl dX11_drawsTread_42
theorem hd_X11_drawsTread : (yX11_drawsTread).cls = RX11 ∧ (yX11_drawsTread).cls ≠ "java/lang/invoke/MethodHandle" ∧ (yX11_drawsTread).cls ≠ "java/lang/invoke/VarHandle" ∧ (parseMethodDescriptor (yX11_drawsTread).desc).map (fun d => d.parameters.length) = some 0 := by decide +kernel
theorem hd_X11_drawsFor : (yX11_drawsFor).cls = RX11 ∧ (yX11_drawsFor).cls ≠ "java/lang/invoke/MethodHandle" ∧ (yX11_drawsFor).cls ≠ "java/lang/invoke/VarHandle" ∧ (parseMethodDescriptor (yX11_drawsFor).desc).map (fun d => d.parameters.length) = some 1 := by decide +kernel
theorem dX11_drawHours_0 : decode cX11_drawHours 0 = .ok (.aload_n 0, 1) := by decide +kernel
theorem dX11_drawHours_1 : decode cX11_drawHours 1 = .ok (.iload_n 2, 1) := by decide +kernel
theorem dX11_drawHours_2 : decode cX11_drawHours 2 = .ok (.putfield 346, 3) := by decide +kernel
theorem dX11_drawHours_5 : decode cX11_drawHours 5 = .ok (.iload_n 1, 1) := by decide +kernel
theorem dX11_drawHours_6 : decode cX11_drawHours 6 = .ok (.sipush 400, 3) := by decide +kernel
theorem dX11_drawHours_9 : decode cX11_drawHours 9 = .ok (.aload_n 0, 1) := by decide +kernel
theorem dX11_drawHours_10 : decode cX11_drawHours 10 = .ok (.getfield 98, 3) := by decide +kernel
theorem dX11_drawHours_13 : decode cX11_drawHours 13 = .ok (.bipush 35, 2) := by decide +kernel
theorem dX11_drawHours_15 : decode cX11_drawHours 15 = .ok (.iaload, 1) := by decide +kernel
theorem dX11_drawHours_16 : decode cX11_drawHours 16 = .ok (.isub, 1) := by decide +kernel
theorem dX11_drawHours_17 : decode cX11_drawHours 17 = .ok (.invokestatic 234, 3) := by decide +kernel
theorem dX11_drawHours_20 : decode cX11_drawHours 20 = .ok (.istore_n 3, 1) := by decide +kernel
theorem dX11_drawHours_21 : decode cX11_drawHours 21 = .ok (.iconst 0, 1) := by decide +kernel
theorem dX11_drawHours_22 : decode cX11_drawHours 22 = .ok (.istore 4, 2) := by decide +kernel
theorem dX11_drawHours_24 : decode cX11_drawHours 24 = .ok (.iload 4, 2) := by decide +kernel
theorem dX11_drawHours_26 : decode cX11_drawHours 26 = .ok (.iload_n 3, 1) := by decide +kernel
theorem dX11_drawHours_27 : decode cX11_drawHours 27 = .ok (.if_icmp .ge 70, 3) := by decide +kernel
theorem dX11_drawHours_30 : decode cX11_drawHours 30 = .ok (.aload_n 0, 1) := by decide +kernel
theorem dX11_drawHours_31 : decode cX11_drawHours 31 = .ok (.getfield 98, 3) := by decide +kernel
theorem dX11_drawHours_34 : decode cX11_drawHours 34 = .ok (.iconst 0, 1) := by decide +kernel
theorem dX11_drawHours_35 : decode cX11_drawHours 35 = .ok (.iaload, 1) := by decide +kernel
theorem dX11_drawHours_36 : decode cX11_drawHours 36 = .ok (.ifCond .le 38, 3) := by decide +kernel
theorem dX11_drawHours_39 : decode cX11_drawHours 39 = .ok (.aload_n 0, 1) := by decide +kernel
theorem dX11_drawHours_40 : decode cX11_drawHours 40 = .ok (.getfield 98, 3) := by decide +kernel
theorem dX11_drawHours_43 : decode cX11_drawHours 43 = .ok (.iconst 2, 1) := by decide +kernel
theorem dX11_drawHours_44 : decode cX11_drawHours 44 = .ok (.iaload, 1) := by decide +kernel
theorem dX11_drawHours_45 : decode cX11_drawHours 45 = .ok (.ifCond .le 29, 3) := by decide +kernel
theorem dX11_drawHours_48 : decode cX11_drawHours 48 = .ok (.iconst 0, 1) := by decide +kernel
theorem dX11_drawHours_49 : decode cX11_drawHours 49 = .ok (.istore 5, 2) := by decide +kernel
theorem dX11_drawHours_51 : decode cX11_drawHours 51 = .ok (.iload 5, 2) := by decide +kernel
theorem dX11_drawHours_53 : decode cX11_drawHours 53 = .ok (.aload_n 0, 1) := by decide +kernel
theorem dX11_drawHours_54 : decode cX11_drawHours 54 = .ok (.getfield 98, 3) := by decide +kernel
theorem dX11_drawHours_57 : decode cX11_drawHours 57 = .ok (.iconst 1, 1) := by decide +kernel
theorem dX11_drawHours_58 : decode cX11_drawHours 58 = .ok (.iaload, 1) := by decide +kernel
theorem dX11_drawHours_59 : decode cX11_drawHours 59 = .ok (.if_icmp .ge 15, 3) := by decide +kernel
theorem dX11_drawHours_62 : decode cX11_drawHours 62 = .ok (.aload_n 0, 1) := by decide +kernel
theorem dX11_drawHours_63 : decode cX11_drawHours 63 = .ok (.iload 5, 2) := by decide +kernel
theorem dX11_drawHours_65 : decode cX11_drawHours 65 = .ok (.invokevirtual 353, 3) := by decide +kernel
theorem dX11_drawHours_68 : decode cX11_drawHours 68 = .ok (.iinc 5 1, 3) := by decide +kernel
theorem dX11_drawHours_71 : decode cX11_drawHours 71 = .ok (.goto (-20), 3) := by decide +kernel
theorem dX11_drawHours_74 : decode cX11_drawHours 74 = .ok (.aload_n 0, 1) := by decide +kernel
theorem dX11_drawHours_75 : decode cX11_drawHours 75 = .ok (.getfield 98, 3) := by decide +kernel
theorem dX11_drawHours_78 : decode cX11_drawHours 78 = .ok (.iconst 0, 1) := by decide +kernel
theorem dX11_drawHours_79 : decode cX11_drawHours 79 = .ok (.iaload, 1) := by decide +kernel
theorem dX11_drawHours_80 : decode cX11_drawHours 80 = .ok (.ifCond .le 7, 3) := by decide +kernel
theorem dX11_drawHours_83 : decode cX11_drawHours 83 = .ok (.aload_n 0, 1) := by decide +kernel
theorem dX11_drawHours_84 : decode cX11_drawHours 84 = .ok (.invokevirtual 356, 3) := by decide +kernel
theorem dX11_drawHours_87 : decode cX11_drawHours 87 = .ok (.aload_n 0, 1) := by decide +kernel
theorem dX11_drawHours_88 : decode cX11_drawHours 88 = .ok (.invokevirtual 296, 3) := by decide +kernel
theorem dX11_drawHours_91 : decode cX11_drawHours 91 = .ok (.iinc 4 1, 3) := by decide +kernel
theorem dX11_drawHours_94 : decode cX11_drawHours 94 = .ok (.goto (-70), 3) := by decide +kernel
theorem dX11_drawHours_97 : decode cX11_drawHours 97 = .ok (.iload_n 3, 1) := by decide +kernel
theorem dX11_drawHours_98 : decode cX11_drawHours 98 = .ok (.ireturn, 1) := by decide +kernel
def fX11_drawHours_J74_24 (N : Nat) (rc : Int32 → Mem → Option (Int32 × Mem)) (v0 : Nat) (v3 : Int32) (v4 : Int32) (M : Mem) : Option (Int32 × Mem) := ((fR M 11 v0 14).bind fun x75 => ((aI M x75 0).bind fun x79 => (if x79 ≤ 0 then (if mK M v0 = 12 then ((fX11_oneHour N v0 M).bind fun (u88, M88) => rc (v4 + 1) M88) else none) else (if mK M v0 = 12 then ((fX11_drawsTread N v0 M).bind fun (u84, M84) => (if mK M84 v0 = 12 then ((fX11_oneHour N v0 M84).bind fun (u88, M88) => rc (v4 + 1) M88) else none)) else none))))
def fX11_drawHours_L51 (N : Nat) (v0 : Nat) (v3 : Int32) (v4 : Int32) : Nat → Int32 → Mem → Option (Mem)
  | 0, _, _ => none
  | n + 1, v5, M => ((fR M 11 v0 14).bind fun x54 => ((aI M x54 1).bind fun x58 => (if x58 ≤ v5 then some M else (if mK M v0 = 12 then ((fX11_drawsFor N v0 v5 M).bind fun (u65, M65) => fX11_drawHours_L51 N v0 v3 v4 n (v5 + 1) M65) else none))))
def fX11_drawHours_L24 (N : Nat) (v0 : Nat) (v3 : Int32) : Nat → Int32 → Mem → Option (Int32 × Mem)
  | 0, _, _ => none
  | n + 1, v4, M => (if v3 ≤ v4 then some (v3, M) else ((fR M 11 v0 14).bind fun x31 => ((aI M x31 0).bind fun x35 => (if x35 ≤ 0 then fX11_drawHours_J74_24 N (fX11_drawHours_L24 N v0 v3 n) v0 v3 v4 M else ((fR M 11 v0 14).bind fun x40 => ((aI M x40 2).bind fun x44 => (if x44 ≤ 0 then fX11_drawHours_J74_24 N (fX11_drawHours_L24 N v0 v3 n) v0 v3 v4 M else ((fX11_drawHours_L51 N v0 v3 v4 N 0 M).bind fun o51 => fX11_drawHours_J74_24 N (fX11_drawHours_L24 N v0 v3 n) v0 v3 v4 o51))))))))
def fX11_drawHours (N : Nat) (v0 : Nat) (v1 : Int32) (v2 : Int32) (M : Mem) : Option (Int32 × Mem) := ((pI M 11 v0 35 v2).bind fun M2 => ((fR M2 11 v0 14).bind fun x10 => ((aI M2 x10 35).bind fun x15 => ((fX11_least N v1 (400 - x15) M2).bind fun (x17, M17) => ((fX11_drawHours_L24 N v0 x17 N 0 M17).bind fun o24 => some o24)))))
set_option maxHeartbeats 4000000 in
set_option maxRecDepth 100000 in
theorem k_X11_drawHours (l : Launch) (b : Nat) (D : va_G) (cy : Nat → ClassId) (N : Nat) (v0 : Nat) (v1 : Int32) (v2 : Int32) (M : Mem) (r : Int32) (Mf : Mem) (h : fX11_drawHours N v0 v1 v2 M = some (r, Mf)) : Ct l yX11_drawHours cX11_drawHours 6 (some .int) 9 0 0 b D cy [.ref (b + v0), .int v1, .int v2] M (some (.int r)) Mf := by
  refine Ct_of (own := RX11) (by decide) rfl (Nat.le_of_ble_eq_true rfl) ?_
  intro p e s m args below meth c F hr hl hmn
  unfold fX11_drawHours at h
  show X p l e ({ frames := 9, cells := 0, slots := 0, locals := 100 * 9 }) s m args below meth c (MQ below (Qm b D cy (some (.int r)) Mf) args s 0 0 (fun q => b ≤ q)) 6 b D cy 0 0 M 0 [(0, .ref (b + v0)), (1, .int v1), (2, .int v2)] []
  refine x_aload_n F dX11_drawHours_0 rfl 0 rfl ?_
  refine x_iload_n F dX11_drawHours_1 rfl 2 rfl ?_
  obtain ⟨M2, c2, h⟩ := bdS h
  refine x_putI F (ci := 11) (C := RX11) (T := TX11) (N := 45) rfl ⟨by decide, rfl⟩ inU11 tyX11_ok nmX11 35 (by decide) rfl rfl wl_1166 c2 dX11_drawHours_2 ?_
  refine x_iload_n F dX11_drawHours_5 rfl 1 rfl ?_
  refine x_sipush F (v := 400) dX11_drawHours_6 (by decide) ?_
  refine x_aload_n F dX11_drawHours_9 rfl 0 rfl ?_
  obtain ⟨x10, c10, h⟩ := bdS h
  refine x_getR F (ci := 11) (C := RX11) (T := TX11) (N := 45) rfl ⟨by decide, rfl⟩ inU11 14 (by decide) (fun _ _ _ => rfl) wl_913 c10 dX11_drawHours_10 ?_
  refine x_bipush F (v := 35) dX11_drawHours_13 (by decide) ?_
  obtain ⟨x15, c15, h⟩ := bdS h
  refine x_aI F c15 dX11_drawHours_15 ?_
  refine x_isub F dX11_drawHours_16 ?_
  obtain ⟨⟨x17, M17⟩, c17, h⟩ := bdS h
  dsimp only at h
  refine x_callS F (As := [.int v1, .int (400 - x15)]) (rest := []) (res := (some (.int x17))) (k_X11_least l b D cy N v1 (400 - x15) M2 _ _ c17) wl_1022 wl_1023 wl_854 wl_860 (hd_X11_least).2 ⟨Nat.le_of_ble_eq_true rfl, Nat.le_of_ble_eq_true rfl⟩ ⟨Nat.le_refl _, Nat.le_refl _⟩ (Nat.le_of_ble_eq_true rfl) rfl dX11_drawHours_17 ?_
  refine x_istore_n F (lv' := [(3, .int x17), (0, .ref (b + v0)), (1, .int v1), (2, .int v2)]) dX11_drawHours_20 rfl (by decide) rfl ?_
  refine x_iconst F (v := 0) dX11_drawHours_21 (by decide) ?_
  refine x_istore F (lv' := [(4, .int 0), (3, .int x17), (0, .ref (b + v0)), (1, .int v1), (2, .int v2)]) dX11_drawHours_22 (by decide) rfl ?_
  have L24 : ∀ (v0 : Nat) (v3 : Int32) (n : Nat) (v4 : Int32) (M : Mem) (o : Int32 × Mem), fX11_drawHours_L24 N v0 v3 n v4 M = some o → (∀ (r' : Int32) (M' : Mem), o = (r', M') → r' = r ∧ M' = Mf) → X p l e ({ frames := 9, cells := 0, slots := 0, locals := 100 * 9 }) s m args below meth c (MQ below (Qm b D cy (some (.int r)) Mf) args s 0 0 (fun q => b ≤ q)) 6 b D cy 0 0 M 24 [(0, .ref (b + v0)), (3, .int v3), (4, .int v4)] [] := by
    intro v0 v3 n
    induction n with
    | zero => intro v4 M o h; exact absurd h (by rw [fX11_drawHours_L24]; exact fun z => by cases z)
    | succ n ih =>
      intro v4 M o h hR
      rw [fX11_drawHours_L24] at h
      have J74 : ∀ (v4 : Int32) (M : Mem), fX11_drawHours_J74_24 N (fX11_drawHours_L24 N v0 v3 n) v0 v3 v4 M = some o → X p l e ({ frames := 9, cells := 0, slots := 0, locals := 100 * 9 }) s m args below meth c (MQ below (Qm b D cy (some (.int r)) Mf) args s 0 0 (fun q => b ≤ q)) 6 b D cy 0 0 M 74 [(0, .ref (b + v0)), (3, .int v3), (4, .int v4)] [] := by
        intro v4 M h
        unfold fX11_drawHours_J74_24 at h
        refine x_aload_n F dX11_drawHours_74 rfl 0 rfl ?_
        obtain ⟨x75, c75, h⟩ := bdS h
        refine x_getR F (ci := 11) (C := RX11) (T := TX11) (N := 45) rfl ⟨by decide, rfl⟩ inU11 14 (by decide) (fun _ _ _ => rfl) wl_913 c75 dX11_drawHours_75 ?_
        refine x_iconst F (v := 0) dX11_drawHours_78 (by decide) ?_
        obtain ⟨x79, c79, h⟩ := bdS h
        refine x_aI F c79 dX11_drawHours_79 ?_
        refine x_if_le F (tgt := 87) dX11_drawHours_80 (by decide) (fun c80 => ?_) (fun c80 => ?_)
        · rw [if_pos c80] at h
          refine x_aload_n F dX11_drawHours_87 rfl 0 rfl ?_
          obtain ⟨k88, h⟩ := gdS h
          obtain ⟨⟨u88, M88⟩, c88, h⟩ := bdS h
          dsimp only at h
          refine x_callV F (As := []) (rest := []) (res := none) (ci := 11) (q := (RX11, TX11, 45)) rfl (by decide) k88 (k_X11_oneHour l b D cy N v0 M _ _ c88) wl_1104 wl_1105 wl_1106 wl_854 wl_1103 hd_X11_oneHour ⟨Nat.le_of_ble_eq_true rfl, Nat.le_of_ble_eq_true rfl⟩ ⟨Nat.le_refl _, Nat.le_refl _⟩ (Nat.le_of_ble_eq_true rfl) rfl dX11_drawHours_88 ?_
          refine x_iinc F (v := v4 + 1) (lv' := [(4, .int (v4 + 1)), (0, .ref (b + v0)), (3, .int v3)]) dX11_drawHours_91 2 rfl rfl (by decide) rfl ?_
          refine x_goto F (tgt := 24) dX11_drawHours_94 (by decide) ?_
          refine x_sub [1, 2, 0] rfl ?_
          exact ih (v4 + 1) M88 o h hR
        · rw [if_neg c80] at h
          refine x_aload_n F dX11_drawHours_83 rfl 0 rfl ?_
          obtain ⟨k84, h⟩ := gdS h
          obtain ⟨⟨u84, M84⟩, c84, h⟩ := bdS h
          dsimp only at h
          refine x_callV F (As := []) (rest := []) (res := none) (ci := 11) (q := (RX11, TX11, 45)) rfl (by decide) k84 (k_X11_drawsTread l b D cy N v0 M _ _ c84) wl_1176 wl_1177 wl_1178 wl_854 wl_1172 hd_X11_drawsTread ⟨Nat.le_of_ble_eq_true rfl, Nat.le_of_ble_eq_true rfl⟩ ⟨Nat.le_refl _, Nat.le_refl _⟩ (Nat.le_of_ble_eq_true rfl) rfl dX11_drawHours_84 ?_
          refine x_aload_n F dX11_drawHours_87 rfl 0 rfl ?_
          obtain ⟨k88, h⟩ := gdS h
          obtain ⟨⟨u88, M88⟩, c88, h⟩ := bdS h
          dsimp only at h
          refine x_callV F (As := []) (rest := []) (res := none) (ci := 11) (q := (RX11, TX11, 45)) rfl (by decide) k88 (k_X11_oneHour l b D cy N v0 M84 _ _ c88) wl_1104 wl_1105 wl_1106 wl_854 wl_1103 hd_X11_oneHour ⟨Nat.le_of_ble_eq_true rfl, Nat.le_of_ble_eq_true rfl⟩ ⟨Nat.le_refl _, Nat.le_refl _⟩ (Nat.le_of_ble_eq_true rfl) rfl dX11_drawHours_88 ?_
          refine x_iinc F (v := v4 + 1) (lv' := [(4, .int (v4 + 1)), (0, .ref (b + v0)), (3, .int v3)]) dX11_drawHours_91 2 rfl rfl (by decide) rfl ?_
          refine x_goto F (tgt := 24) dX11_drawHours_94 (by decide) ?_
          refine x_sub [1, 2, 0] rfl ?_
          exact ih (v4 + 1) M88 o h hR
      refine x_iload F dX11_drawHours_24 2 rfl ?_
      refine x_iload_n F dX11_drawHours_26 rfl 1 rfl ?_
      refine x_icmp_ge F (tgt := 97) dX11_drawHours_27 (by decide) (fun c27 => ?_) (fun c27 => ?_)
      · rw [if_pos c27] at h
        refine x_iload_n F dX11_drawHours_97 rfl 1 rfl ?_
        obtain rfl := Option.some.inj h
        obtain ⟨rfl, rfl⟩ := hR _ _ rfl
        exact x_iret F hr hl dX11_drawHours_98
      · rw [if_neg c27] at h
        refine x_aload_n F dX11_drawHours_30 rfl 0 rfl ?_
        obtain ⟨x31, c31, h⟩ := bdS h
        refine x_getR F (ci := 11) (C := RX11) (T := TX11) (N := 45) rfl ⟨by decide, rfl⟩ inU11 14 (by decide) (fun _ _ _ => rfl) wl_913 c31 dX11_drawHours_31 ?_
        refine x_iconst F (v := 0) dX11_drawHours_34 (by decide) ?_
        obtain ⟨x35, c35, h⟩ := bdS h
        refine x_aI F c35 dX11_drawHours_35 ?_
        refine x_if_le F (tgt := 74) dX11_drawHours_36 (by decide) (fun c36 => ?_) (fun c36 => ?_)
        · rw [if_pos c36] at h
          exact J74 v4 M h
        · rw [if_neg c36] at h
          refine x_aload_n F dX11_drawHours_39 rfl 0 rfl ?_
          obtain ⟨x40, c40, h⟩ := bdS h
          refine x_getR F (ci := 11) (C := RX11) (T := TX11) (N := 45) rfl ⟨by decide, rfl⟩ inU11 14 (by decide) (fun _ _ _ => rfl) wl_913 c40 dX11_drawHours_40 ?_
          refine x_iconst F (v := 2) dX11_drawHours_43 (by decide) ?_
          obtain ⟨x44, c44, h⟩ := bdS h
          refine x_aI F c44 dX11_drawHours_44 ?_
          refine x_if_le F (tgt := 74) dX11_drawHours_45 (by decide) (fun c45 => ?_) (fun c45 => ?_)
          · rw [if_pos c45] at h
            exact J74 v4 M h
          · rw [if_neg c45] at h
            refine x_iconst F (v := 0) dX11_drawHours_48 (by decide) ?_
            refine x_istore F (lv' := [(5, .int 0), (0, .ref (b + v0)), (3, .int v3), (4, .int v4)]) dX11_drawHours_49 (by decide) rfl ?_
            have L51 : ∀ (v0 : Nat) (v3 : Int32) (v4 : Int32) (n : Nat) (v5 : Int32) (M : Mem) (o : Mem), fX11_drawHours_L51 N v0 v3 v4 n v5 M = some o → X p l e ({ frames := 9, cells := 0, slots := 0, locals := 100 * 9 }) s m args below meth c (MQ below (Qm b D cy (some (.int r)) Mf) args s 0 0 (fun q => b ≤ q)) 6 b D cy 0 0 o 74 [(0, .ref (b + v0)), (3, .int v3), (4, .int v4)] [] → X p l e ({ frames := 9, cells := 0, slots := 0, locals := 100 * 9 }) s m args below meth c (MQ below (Qm b D cy (some (.int r)) Mf) args s 0 0 (fun q => b ≤ q)) 6 b D cy 0 0 M 51 [(0, .ref (b + v0)), (3, .int v3), (4, .int v4), (5, .int v5)] [] := by
              intro v0 v3 v4 n
              induction n with
              | zero => intro v5 M o h; exact absurd h (by rw [fX11_drawHours_L51]; exact fun z => by cases z)
              | succ n ih =>
                intro v5 M o h hE
                rw [fX11_drawHours_L51] at h
                refine x_iload F dX11_drawHours_51 3 rfl ?_
                refine x_aload_n F dX11_drawHours_53 rfl 0 rfl ?_
                obtain ⟨x54, c54, h⟩ := bdS h
                refine x_getR F (ci := 11) (C := RX11) (T := TX11) (N := 45) rfl ⟨by decide, rfl⟩ inU11 14 (by decide) (fun _ _ _ => rfl) wl_913 c54 dX11_drawHours_54 ?_
                refine x_iconst F (v := 1) dX11_drawHours_57 (by decide) ?_
                obtain ⟨x58, c58, h⟩ := bdS h
                refine x_aI F c58 dX11_drawHours_58 ?_
                refine x_icmp_ge F (tgt := 74) dX11_drawHours_59 (by decide) (fun c59 => ?_) (fun c59 => ?_)
                · rw [if_pos c59] at h
                  obtain rfl := Option.some.inj h
                  refine x_sub [0, 1, 2] rfl ?_
                  exact hE
                · rw [if_neg c59] at h
                  refine x_aload_n F dX11_drawHours_62 rfl 0 rfl ?_
                  refine x_iload F dX11_drawHours_63 3 rfl ?_
                  obtain ⟨k65, h⟩ := gdS h
                  obtain ⟨⟨u65, M65⟩, c65, h⟩ := bdS h
                  dsimp only at h
                  refine x_callV F (As := [.int v5]) (rest := []) (res := none) (ci := 11) (q := (RX11, TX11, 45)) rfl (by decide) k65 (k_X11_drawsFor l b D cy N v0 v5 M _ _ c65) wl_1173 wl_1174 wl_1175 wl_854 wl_1171 hd_X11_drawsFor ⟨Nat.le_of_ble_eq_true rfl, Nat.le_of_ble_eq_true rfl⟩ ⟨Nat.le_refl _, Nat.le_refl _⟩ (Nat.le_of_ble_eq_true rfl) rfl dX11_drawHours_65 ?_
                  refine x_iinc F (v := v5 + 1) (lv' := [(5, .int (v5 + 1)), (0, .ref (b + v0)), (3, .int v3), (4, .int v4)]) dX11_drawHours_68 3 rfl rfl (by decide) rfl ?_
                  refine x_goto F (tgt := 51) dX11_drawHours_71 (by decide) ?_
                  refine x_sub [1, 2, 3, 0] rfl ?_
                  exact ih (v5 + 1) M65 o h hE
            obtain ⟨o51, h51, h⟩ := bdS h
            refine x_sub [1, 2, 3, 0] rfl ?_
            refine L51 v0 v3 v4 N 0 M o51 h51 ?_
            exact J74 v4 o51 h
  obtain ⟨o24, h24, h⟩ := bdS h
  refine x_sub [2, 1, 0] rfl ?_
  refine L24 v0 x17 N 0 M17 o24 h24 (fun r' M' e => ?_)
  · subst e
    try dsimp only at h
    obtain ⟨rfl, rfl⟩ := retS h; exact ⟨rfl, rfl⟩
theorem hd_X11_drawHours : (yX11_drawHours).cls = RX11 ∧ (yX11_drawHours).cls ≠ "java/lang/invoke/MethodHandle" ∧ (yX11_drawHours).cls ≠ "java/lang/invoke/VarHandle" ∧ (parseMethodDescriptor (yX11_drawHours).desc).map (fun d => d.parameters.length) = some 2 := by decide +kernel
theorem dX11_drawn_0 : decode cX11_drawn 0 = .ok (.aload_n 0, 1) := by decide +kernel
theorem dX11_drawn_1 : decode cX11_drawn 1 = .ok (.iconst 0, 1) := by decide +kernel
theorem dX11_drawn_2 : decode cX11_drawn 2 = .ok (.putfield 1, 3) := by decide +kernel
theorem dX11_drawn_5 : decode cX11_drawn 5 = .ok (.iload_n 1, 1) := by decide +kernel
theorem dX11_drawn_6 : decode cX11_drawn 6 = .ok (.iconst 1, 1) := by decide +kernel
theorem dX11_drawn_7 : decode cX11_drawn 7 = .ok (.bipush 60, 2) := by decide +kernel
theorem dX11_drawn_9 : decode cX11_drawn 9 = .ok (.invokestatic 75, 3) := by decide +kernel
theorem dX11_drawn_12 : decode cX11_drawn 12 = .ok (.ifCond .ne 5, 3) := by decide +kernel
theorem dX11_drawn_15 : decode cX11_drawn 15 = .ok (.iconst (-1), 1) := by decide +kernel
theorem dX11_drawn_16 : decode cX11_drawn 16 = .ok (.ireturn, 1) := by decide +kernel
theorem dX11_drawn_17 : decode cX11_drawn 17 = .ok (.aload_n 0, 1) := by decide +kernel
theorem dX11_drawn_18 : decode cX11_drawn 18 = .ok (.getfield 98, 3) := by decide +kernel
theorem dX11_drawn_21 : decode cX11_drawn 21 = .ok (.bipush 35, 2) := by decide +kernel
theorem dX11_drawn_23 : decode cX11_drawn 23 = .ok (.iaload, 1) := by decide +kernel
theorem dX11_drawn_24 : decode cX11_drawn 24 = .ok (.sipush 400, 3) := by decide +kernel
theorem dX11_drawn_27 : decode cX11_drawn 27 = .ok (.if_icmp .ne 5, 3) := by decide +kernel
theorem dX11_drawn_30 : decode cX11_drawn 30 = .ok (.iconst 0, 1) := by decide +kernel
theorem dX11_drawn_31 : decode cX11_drawn 31 = .ok (.ireturn, 1) := by decide +kernel
theorem dX11_drawn_32 : decode cX11_drawn 32 = .ok (.aload_n 0, 1) := by decide +kernel
theorem dX11_drawn_33 : decode cX11_drawn 33 = .ok (.invokevirtual 273, 3) := by decide +kernel
theorem dX11_drawn_36 : decode cX11_drawn 36 = .ok (.aload_n 0, 1) := by decide +kernel
theorem dX11_drawn_37 : decode cX11_drawn 37 = .ok (.iload_n 1, 1) := by decide +kernel
theorem dX11_drawn_38 : decode cX11_drawn 38 = .ok (.iload_n 2, 1) := by decide +kernel
theorem dX11_drawn_39 : decode cX11_drawn 39 = .ok (.invokevirtual 359, 3) := by decide +kernel
theorem dX11_drawn_42 : decode cX11_drawn 42 = .ok (.ireturn, 1) := by decide +kernel
def fX11_drawn (N : Nat) (v0 : Nat) (v1 : Int32) (v2 : Int32) (M : Mem) : Option (Int32 × Mem) := ((pI M 11 v0 0 0).bind fun M2 => ((fX11_isIn N v1 1 60 M2).bind fun (x9, M9) => (if x9 = 0 then some ((-1), M9) else ((fR M9 11 v0 14).bind fun x18 => ((aI M9 x18 35).bind fun x23 => (if x23 = 400 then some (0, M9) else (if mK M9 v0 = 12 then ((fX11_snap N v0 M9).bind fun (u33, M33) => (if mK M33 v0 = 12 then ((fX11_drawHours N v0 v1 v2 M33).bind fun (x39, M39) => some (x39, M39)) else none)) else none)))))))
set_option maxHeartbeats 4000000 in
set_option maxRecDepth 100000 in
theorem k_X11_drawn (l : Launch) (b : Nat) (D : va_G) (cy : Nat → ClassId) (N : Nat) (v0 : Nat) (v1 : Int32) (v2 : Int32) (M : Mem) (r : Int32) (Mf : Mem) (h : fX11_drawn N v0 v1 v2 M = some (r, Mf)) : Ct l yX11_drawn cX11_drawn 3 (some .int) 10 0 0 b D cy [.ref (b + v0), .int v1, .int v2] M (some (.int r)) Mf := by
  refine Ct_of (own := RX11) (by decide) rfl (Nat.le_of_ble_eq_true rfl) ?_
  intro p e s m args below meth c F hr hl hmn
  unfold fX11_drawn at h
  show X p l e ({ frames := 10, cells := 0, slots := 0, locals := 100 * 10 }) s m args below meth c (MQ below (Qm b D cy (some (.int r)) Mf) args s 0 0 (fun q => b ≤ q)) 3 b D cy 0 0 M 0 [(0, .ref (b + v0)), (1, .int v1), (2, .int v2)] []
  refine x_aload_n F dX11_drawn_0 rfl 0 rfl ?_
  refine x_iconst F (v := 0) dX11_drawn_1 (by decide) ?_
  obtain ⟨M2, c2, h⟩ := bdS h
  refine x_putI F (ci := 11) (C := RX11) (T := TX11) (N := 45) rfl ⟨by decide, rfl⟩ inU11 tyX11_ok nmX11 0 (by decide) rfl rfl wl_845 c2 dX11_drawn_2 ?_
  refine x_iload_n F dX11_drawn_5 rfl 1 rfl ?_
  refine x_iconst F (v := 1) dX11_drawn_6 (by decide) ?_
  refine x_bipush F (v := 60) dX11_drawn_7 (by decide) ?_
  obtain ⟨⟨x9, M9⟩, c9, h⟩ := bdS h
  dsimp only at h
  refine x_callS F (As := [.int v1, .int 1, .int 60]) (rest := []) (res := (some (.int x9))) (k_X11_isIn l b D cy N v1 1 60 M2 _ _ c9) wl_898 wl_899 wl_854 wl_857 (hd_X11_isIn).2 ⟨Nat.le_of_ble_eq_true rfl, Nat.le_of_ble_eq_true rfl⟩ ⟨Nat.le_refl _, Nat.le_refl _⟩ (Nat.le_of_ble_eq_true rfl) rfl dX11_drawn_9 ?_
  refine x_if_ne F (tgt := 17) dX11_drawn_12 (by decide) (fun c12 => ?_) (fun c12 => ?_)
  · rw [if_neg c12] at h
    refine x_aload_n F dX11_drawn_17 rfl 0 rfl ?_
    obtain ⟨x18, c18, h⟩ := bdS h
    refine x_getR F (ci := 11) (C := RX11) (T := TX11) (N := 45) rfl ⟨by decide, rfl⟩ inU11 14 (by decide) (fun _ _ _ => rfl) wl_913 c18 dX11_drawn_18 ?_
    refine x_bipush F (v := 35) dX11_drawn_21 (by decide) ?_
    obtain ⟨x23, c23, h⟩ := bdS h
    refine x_aI F c23 dX11_drawn_23 ?_
    refine x_sipush F (v := 400) dX11_drawn_24 (by decide) ?_
    refine x_icmp_ne F (tgt := 32) dX11_drawn_27 (by decide) (fun c27 => ?_) (fun c27 => ?_)
    · rw [if_neg c27] at h
      refine x_aload_n F dX11_drawn_32 rfl 0 rfl ?_
      obtain ⟨k33, h⟩ := gdS h
      obtain ⟨⟨u33, M33⟩, c33, h⟩ := bdS h
      dsimp only at h
      refine x_callV F (As := []) (rest := []) (res := none) (ci := 11) (q := (RX11, TX11, 45)) rfl (by decide) k33 (k_X11_snap l b D cy N v0 M9 _ _ c33) wl_1077 wl_1078 wl_1079 wl_854 wl_1069 hd_X11_snap ⟨Nat.le_of_ble_eq_true rfl, Nat.le_of_ble_eq_true rfl⟩ ⟨Nat.le_refl _, Nat.le_refl _⟩ (Nat.le_of_ble_eq_true rfl) rfl dX11_drawn_33 ?_
      refine x_aload_n F dX11_drawn_36 rfl 0 rfl ?_
      refine x_iload_n F dX11_drawn_37 rfl 1 rfl ?_
      refine x_iload_n F dX11_drawn_38 rfl 2 rfl ?_
      obtain ⟨k39, h⟩ := gdS h
      obtain ⟨⟨x39, M39⟩, c39, h⟩ := bdS h
      dsimp only at h
      refine x_callV F (As := [.int v1, .int v2]) (rest := []) (res := (some (.int x39))) (ci := 11) (q := (RX11, TX11, 45)) rfl (by decide) k39 (k_X11_drawHours l b D cy N v0 v1 v2 M33 _ _ c39) wl_1180 wl_1181 wl_1182 wl_854 wl_1179 hd_X11_drawHours ⟨Nat.le_of_ble_eq_true rfl, Nat.le_of_ble_eq_true rfl⟩ ⟨Nat.le_refl _, Nat.le_refl _⟩ (Nat.le_of_ble_eq_true rfl) rfl dX11_drawn_39 ?_
      obtain ⟨rfl, rfl⟩ := retS h
      exact x_iret F hr hl dX11_drawn_42
    · rw [if_pos c27] at h
      refine x_iconst F (v := 0) dX11_drawn_30 (by decide) ?_
      obtain ⟨rfl, rfl⟩ := retS h
      exact x_iret F hr hl dX11_drawn_31
  · rw [if_pos c12] at h
    refine x_iconst F (v := (-1)) dX11_drawn_15 (by decide) ?_
    obtain ⟨rfl, rfl⟩ := retS h
    exact x_iret F hr hl dX11_drawn_16
theorem dX11_layAside_0 : decode cX11_layAside 0 = .ok (.iconst 0, 1) := by decide +kernel
theorem dX11_layAside_1 : decode cX11_layAside 1 = .ok (.istore_n 1, 1) := by decide +kernel
theorem dX11_layAside_2 : decode cX11_layAside 2 = .ok (.iload_n 1, 1) := by decide +kernel
theorem dX11_layAside_3 : decode cX11_layAside 3 = .ok (.sipush 164, 3) := by decide +kernel
theorem dX11_layAside_6 : decode cX11_layAside 6 = .ok (.if_icmp .ge 24, 3) := by decide +kernel
theorem dX11_layAside_9 : decode cX11_layAside 9 = .ok (.aload_n 0, 1) := by decide +kernel
theorem dX11_layAside_10 : decode cX11_layAside 10 = .ok (.getfield 110, 3) := by decide +kernel
theorem dX11_layAside_13 : decode cX11_layAside 13 = .ok (.iload_n 1, 1) := by decide +kernel
theorem dX11_layAside_14 : decode cX11_layAside 14 = .ok (.aload_n 0, 1) := by decide +kernel
theorem dX11_layAside_15 : decode cX11_layAside 15 = .ok (.getfield 98, 3) := by decide +kernel
theorem dX11_layAside_18 : decode cX11_layAside 18 = .ok (.bipush 35, 2) := by decide +kernel
theorem dX11_layAside_20 : decode cX11_layAside 20 = .ok (.iload_n 1, 1) := by decide +kernel
theorem dX11_layAside_21 : decode cX11_layAside 21 = .ok (.iadd, 1) := by decide +kernel
theorem dX11_layAside_22 : decode cX11_layAside 22 = .ok (.iaload, 1) := by decide +kernel
theorem dX11_layAside_23 : decode cX11_layAside 23 = .ok (.iastore, 1) := by decide +kernel
theorem dX11_layAside_24 : decode cX11_layAside 24 = .ok (.iinc 1 1, 3) := by decide +kernel
theorem dX11_layAside_27 : decode cX11_layAside 27 = .ok (.goto (-25), 3) := by decide +kernel
theorem dX11_layAside_30 : decode cX11_layAside 30 = .ok (.return_, 1) := by decide +kernel
def fX11_layAside_L2 (N : Nat) (v0 : Nat) : Nat → Int32 → Mem → Option (Mem)
  | 0, _, _ => none
  | n + 1, v1, M => (if 164 ≤ v1 then some M else ((fR M 11 v0 18).bind fun x10 => ((fR M 11 v0 14).bind fun x15 => ((aI M x15 (35 + v1)).bind fun x22 => ((tI M x10 v1 x22).bind fun M23 => fX11_layAside_L2 N v0 n (v1 + 1) M23)))))
def fX11_layAside (N : Nat) (v0 : Nat) (M : Mem) : Option (Unit × Mem) := ((fX11_layAside_L2 N v0 N 0 M).bind fun o2 => some ((), o2))
set_option maxHeartbeats 4000000 in
set_option maxRecDepth 100000 in
theorem k_X11_layAside (l : Launch) (b : Nat) (D : va_G) (cy : Nat → ClassId) (N : Nat) (v0 : Nat) (M : Mem) (r : Unit) (Mf : Mem) (h : fX11_layAside N v0 M = some (r, Mf)) : Ct l yX11_layAside cX11_layAside 2 none 1 0 0 b D cy [.ref (b + v0)] M none Mf := by
  refine Ct_of (own := RX11) (by decide) rfl (Nat.le_of_ble_eq_true rfl) ?_
  intro p e s m args below meth c F hr hl hmn
  unfold fX11_layAside at h
  show X p l e ({ frames := 1, cells := 0, slots := 0, locals := 100 * 1 }) s m args below meth c (MQ below (Qm b D cy none Mf) args s 0 0 (fun q => b ≤ q)) 2 b D cy 0 0 M 0 [(0, .ref (b + v0))] []
  refine x_iconst F (v := 0) dX11_layAside_0 (by decide) ?_
  refine x_istore_n F (lv' := [(1, .int 0), (0, .ref (b + v0))]) dX11_layAside_1 rfl (by decide) rfl ?_
  have L2 : ∀ (v0 : Nat) (n : Nat) (v1 : Int32) (M : Mem) (o : Mem), fX11_layAside_L2 N v0 n v1 M = some o → X p l e ({ frames := 1, cells := 0, slots := 0, locals := 100 * 1 }) s m args below meth c (MQ below (Qm b D cy none Mf) args s 0 0 (fun q => b ≤ q)) 2 b D cy 0 0 o 30 [] [] → X p l e ({ frames := 1, cells := 0, slots := 0, locals := 100 * 1 }) s m args below meth c (MQ below (Qm b D cy none Mf) args s 0 0 (fun q => b ≤ q)) 2 b D cy 0 0 M 2 [(0, .ref (b + v0)), (1, .int v1)] [] := by
    intro v0 n
    induction n with
    | zero => intro v1 M o h; exact absurd h (by rw [fX11_layAside_L2]; exact fun z => by cases z)
    | succ n ih =>
      intro v1 M o h hE
      rw [fX11_layAside_L2] at h
      refine x_iload_n F dX11_layAside_2 rfl 1 rfl ?_
      refine x_sipush F (v := 164) dX11_layAside_3 (by decide) ?_
      refine x_icmp_ge F (tgt := 30) dX11_layAside_6 (by decide) (fun c6 => ?_) (fun c6 => ?_)
      · rw [if_pos c6] at h
        obtain rfl := Option.some.inj h
        refine x_sub [] rfl ?_
        exact hE
      · rw [if_neg c6] at h
        refine x_aload_n F dX11_layAside_9 rfl 0 rfl ?_
        obtain ⟨x10, c10, h⟩ := bdS h
        refine x_getR F (ci := 11) (C := RX11) (T := TX11) (N := 45) rfl ⟨by decide, rfl⟩ inU11 18 (by decide) (fun _ _ _ => rfl) wl_918 c10 dX11_layAside_10 ?_
        refine x_iload_n F dX11_layAside_13 rfl 1 rfl ?_
        refine x_aload_n F dX11_layAside_14 rfl 0 rfl ?_
        obtain ⟨x15, c15, h⟩ := bdS h
        refine x_getR F (ci := 11) (C := RX11) (T := TX11) (N := 45) rfl ⟨by decide, rfl⟩ inU11 14 (by decide) (fun _ _ _ => rfl) wl_913 c15 dX11_layAside_15 ?_
        refine x_bipush F (v := 35) dX11_layAside_18 (by decide) ?_
        refine x_iload_n F dX11_layAside_20 rfl 1 rfl ?_
        refine x_iadd F dX11_layAside_21 ?_
        obtain ⟨x22, c22, h⟩ := bdS h
        refine x_aI F c22 dX11_layAside_22 ?_
        obtain ⟨M23, c23, h⟩ := bdS h
        refine x_tI F c23 dX11_layAside_23 ?_
        refine x_iinc F (v := v1 + 1) (lv' := [(1, .int (v1 + 1)), (0, .ref (b + v0))]) dX11_layAside_24 1 rfl rfl (by decide) rfl ?_
        refine x_goto F (tgt := 2) dX11_layAside_27 (by decide) ?_
        refine x_sub [1, 0] rfl ?_
        exact ih (v1 + 1) M23 o h hE
  obtain ⟨o2, h2, h⟩ := bdS h
  refine x_sub [1, 0] rfl ?_
  refine L2 v0 N 0 M o2 h2 ?_
  obtain ⟨rfl, rfl⟩ := retS h
  exact x_vret F hr hl dX11_layAside_30
theorem dX11_takeBack_0 : decode cX11_takeBack 0 = .ok (.iconst 0, 1) := by decide +kernel
theorem dX11_takeBack_1 : decode cX11_takeBack 1 = .ok (.istore_n 1, 1) := by decide +kernel
theorem dX11_takeBack_2 : decode cX11_takeBack 2 = .ok (.iload_n 1, 1) := by decide +kernel
theorem dX11_takeBack_3 : decode cX11_takeBack 3 = .ok (.sipush 164, 3) := by decide +kernel
theorem dX11_takeBack_6 : decode cX11_takeBack 6 = .ok (.if_icmp .ge 24, 3) := by decide +kernel
theorem dX11_takeBack_9 : decode cX11_takeBack 9 = .ok (.aload_n 0, 1) := by decide +kernel
theorem dX11_takeBack_10 : decode cX11_takeBack 10 = .ok (.getfield 98, 3) := by decide +kernel
theorem dX11_takeBack_13 : decode cX11_takeBack 13 = .ok (.bipush 35, 2) := by decide +kernel
theorem dX11_takeBack_15 : decode cX11_takeBack 15 = .ok (.iload_n 1, 1) := by decide +kernel
theorem dX11_takeBack_16 : decode cX11_takeBack 16 = .ok (.iadd, 1) := by decide +kernel
theorem dX11_takeBack_17 : decode cX11_takeBack 17 = .ok (.aload_n 0, 1) := by decide +kernel
theorem dX11_takeBack_18 : decode cX11_takeBack 18 = .ok (.getfield 110, 3) := by decide +kernel
theorem dX11_takeBack_21 : decode cX11_takeBack 21 = .ok (.iload_n 1, 1) := by decide +kernel
theorem dX11_takeBack_22 : decode cX11_takeBack 22 = .ok (.iaload, 1) := by decide +kernel
theorem dX11_takeBack_23 : decode cX11_takeBack 23 = .ok (.iastore, 1) := by decide +kernel
theorem dX11_takeBack_24 : decode cX11_takeBack 24 = .ok (.iinc 1 1, 3) := by decide +kernel
theorem dX11_takeBack_27 : decode cX11_takeBack 27 = .ok (.goto (-25), 3) := by decide +kernel
theorem dX11_takeBack_30 : decode cX11_takeBack 30 = .ok (.return_, 1) := by decide +kernel
def fX11_takeBack_L2 (N : Nat) (v0 : Nat) : Nat → Int32 → Mem → Option (Mem)
  | 0, _, _ => none
  | n + 1, v1, M => (if 164 ≤ v1 then some M else ((fR M 11 v0 14).bind fun x10 => ((fR M 11 v0 18).bind fun x18 => ((aI M x18 v1).bind fun x22 => ((tI M x10 (35 + v1) x22).bind fun M23 => fX11_takeBack_L2 N v0 n (v1 + 1) M23)))))
def fX11_takeBack (N : Nat) (v0 : Nat) (M : Mem) : Option (Unit × Mem) := ((fX11_takeBack_L2 N v0 N 0 M).bind fun o2 => some ((), o2))
set_option maxHeartbeats 4000000 in
set_option maxRecDepth 100000 in
theorem k_X11_takeBack (l : Launch) (b : Nat) (D : va_G) (cy : Nat → ClassId) (N : Nat) (v0 : Nat) (M : Mem) (r : Unit) (Mf : Mem) (h : fX11_takeBack N v0 M = some (r, Mf)) : Ct l yX11_takeBack cX11_takeBack 2 none 1 0 0 b D cy [.ref (b + v0)] M none Mf := by
  refine Ct_of (own := RX11) (by decide) rfl (Nat.le_of_ble_eq_true rfl) ?_
  intro p e s m args below meth c F hr hl hmn
  unfold fX11_takeBack at h
  show X p l e ({ frames := 1, cells := 0, slots := 0, locals := 100 * 1 }) s m args below meth c (MQ below (Qm b D cy none Mf) args s 0 0 (fun q => b ≤ q)) 2 b D cy 0 0 M 0 [(0, .ref (b + v0))] []
  refine x_iconst F (v := 0) dX11_takeBack_0 (by decide) ?_
  refine x_istore_n F (lv' := [(1, .int 0), (0, .ref (b + v0))]) dX11_takeBack_1 rfl (by decide) rfl ?_
  have L2 : ∀ (v0 : Nat) (n : Nat) (v1 : Int32) (M : Mem) (o : Mem), fX11_takeBack_L2 N v0 n v1 M = some o → X p l e ({ frames := 1, cells := 0, slots := 0, locals := 100 * 1 }) s m args below meth c (MQ below (Qm b D cy none Mf) args s 0 0 (fun q => b ≤ q)) 2 b D cy 0 0 o 30 [] [] → X p l e ({ frames := 1, cells := 0, slots := 0, locals := 100 * 1 }) s m args below meth c (MQ below (Qm b D cy none Mf) args s 0 0 (fun q => b ≤ q)) 2 b D cy 0 0 M 2 [(0, .ref (b + v0)), (1, .int v1)] [] := by
    intro v0 n
    induction n with
    | zero => intro v1 M o h; exact absurd h (by rw [fX11_takeBack_L2]; exact fun z => by cases z)
    | succ n ih =>
      intro v1 M o h hE
      rw [fX11_takeBack_L2] at h
      refine x_iload_n F dX11_takeBack_2 rfl 1 rfl ?_
      refine x_sipush F (v := 164) dX11_takeBack_3 (by decide) ?_
      refine x_icmp_ge F (tgt := 30) dX11_takeBack_6 (by decide) (fun c6 => ?_) (fun c6 => ?_)
      · rw [if_pos c6] at h
        obtain rfl := Option.some.inj h
        refine x_sub [] rfl ?_
        exact hE
      · rw [if_neg c6] at h
        refine x_aload_n F dX11_takeBack_9 rfl 0 rfl ?_
        obtain ⟨x10, c10, h⟩ := bdS h
        refine x_getR F (ci := 11) (C := RX11) (T := TX11) (N := 45) rfl ⟨by decide, rfl⟩ inU11 14 (by decide) (fun _ _ _ => rfl) wl_913 c10 dX11_takeBack_10 ?_
        refine x_bipush F (v := 35) dX11_takeBack_13 (by decide) ?_
        refine x_iload_n F dX11_takeBack_15 rfl 1 rfl ?_
        refine x_iadd F dX11_takeBack_16 ?_
        refine x_aload_n F dX11_takeBack_17 rfl 0 rfl ?_
        obtain ⟨x18, c18, h⟩ := bdS h
        refine x_getR F (ci := 11) (C := RX11) (T := TX11) (N := 45) rfl ⟨by decide, rfl⟩ inU11 18 (by decide) (fun _ _ _ => rfl) wl_918 c18 dX11_takeBack_18 ?_
        refine x_iload_n F dX11_takeBack_21 rfl 1 rfl ?_
        obtain ⟨x22, c22, h⟩ := bdS h
        refine x_aI F c22 dX11_takeBack_22 ?_
        obtain ⟨M23, c23, h⟩ := bdS h
        refine x_tI F c23 dX11_takeBack_23 ?_
        refine x_iinc F (v := v1 + 1) (lv' := [(1, .int (v1 + 1)), (0, .ref (b + v0))]) dX11_takeBack_24 1 rfl rfl (by decide) rfl ?_
        refine x_goto F (tgt := 2) dX11_takeBack_27 (by decide) ?_
        refine x_sub [1, 0] rfl ?_
        exact ih (v1 + 1) M23 o h hE
  obtain ⟨o2, h2, h⟩ := bdS h
  refine x_sub [1, 0] rfl ?_
  refine L2 v0 N 0 M o2 h2 ?_
  obtain ⟨rfl, rfl⟩ := retS h
  exact x_vret F hr hl dX11_takeBack_30
theorem hd_X11_layAside : (yX11_layAside).cls = RX11 ∧ (yX11_layAside).cls ≠ "java/lang/invoke/MethodHandle" ∧ (yX11_layAside).cls ≠ "java/lang/invoke/VarHandle" ∧ (parseMethodDescriptor (yX11_layAside).desc).map (fun d => d.parameters.length) = some 0 := by decide +kernel
theorem hd_X11_takeBack : (yX11_takeBack).cls = RX11 ∧ (yX11_takeBack).cls ≠ "java/lang/invoke/MethodHandle" ∧ (yX11_takeBack).cls ≠ "java/lang/invoke/VarHandle" ∧ (parseMethodDescriptor (yX11_takeBack).desc).map (fun d => d.parameters.length) = some 0 := by decide +kernel
theorem dX11_odds_0 : decode cX11_odds 0 = .ok (.aload_n 0, 1) := by decide +kernel
theorem dX11_odds_1 : decode cX11_odds 1 = .ok (.iconst 0, 1) := by decide +kernel
theorem dX11_odds_2 : decode cX11_odds 2 = .ok (.putfield 1, 3) := by decide +kernel
theorem dX11_odds_5 : decode cX11_odds 5 = .ok (.aload_n 0, 1) := by decide +kernel
theorem dX11_odds_6 : decode cX11_odds 6 = .ok (.iload_n 1, 1) := by decide +kernel
theorem dX11_odds_7 : decode cX11_odds 7 = .ok (.invokevirtual 258, 3) := by decide +kernel
theorem dX11_odds_10 : decode cX11_odds 10 = .ok (.ifCond .eq 13, 3) := by decide +kernel
theorem dX11_odds_13 : decode cX11_odds 13 = .ok (.iload_n 2, 1) := by decide +kernel
theorem dX11_odds_14 : decode cX11_odds 14 = .ok (.iconst 1, 1) := by decide +kernel
theorem dX11_odds_15 : decode cX11_odds 15 = .ok (.bipush 30, 2) := by decide +kernel
theorem dX11_odds_17 : decode cX11_odds 17 = .ok (.invokestatic 75, 3) := by decide +kernel
theorem dX11_odds_20 : decode cX11_odds 20 = .ok (.ifCond .ne 5, 3) := by decide +kernel
theorem dX11_odds_23 : decode cX11_odds 23 = .ok (.iconst (-1), 1) := by decide +kernel
theorem dX11_odds_24 : decode cX11_odds 24 = .ok (.ireturn, 1) := by decide +kernel
theorem dX11_odds_25 : decode cX11_odds 25 = .ok (.aload_n 0, 1) := by decide +kernel
theorem dX11_odds_26 : decode cX11_odds 26 = .ok (.invokevirtual 362, 3) := by decide +kernel
theorem dX11_odds_29 : decode cX11_odds 29 = .ok (.iconst 0, 1) := by decide +kernel
theorem dX11_odds_30 : decode cX11_odds 30 = .ok (.istore 4, 2) := by decide +kernel
theorem dX11_odds_32 : decode cX11_odds 32 = .ok (.iconst 0, 1) := by decide +kernel
theorem dX11_odds_33 : decode cX11_odds 33 = .ok (.istore 5, 2) := by decide +kernel
theorem dX11_odds_35 : decode cX11_odds 35 = .ok (.iload 5, 2) := by decide +kernel
theorem dX11_odds_37 : decode cX11_odds 37 = .ok (.iload_n 2, 1) := by decide +kernel
theorem dX11_odds_38 : decode cX11_odds 38 = .ok (.if_icmp .ge 41, 3) := by decide +kernel
theorem dX11_odds_41 : decode cX11_odds 41 = .ok (.aload_n 0, 1) := by decide +kernel
theorem dX11_odds_42 : decode cX11_odds 42 = .ok (.bipush 20, 2) := by decide +kernel
theorem dX11_odds_44 : decode cX11_odds 44 = .ok (.iload_n 3, 1) := by decide +kernel
theorem dX11_odds_45 : decode cX11_odds 45 = .ok (.iload 5, 2) := by decide +kernel
theorem dX11_odds_47 : decode cX11_odds 47 = .ok (.iadd, 1) := by decide +kernel
theorem dX11_odds_48 : decode cX11_odds 48 = .ok (.invokevirtual 359, 3) := by decide +kernel
theorem dX11_odds_51 : decode cX11_odds 51 = .ok (.pop, 1) := by decide +kernel
theorem dX11_odds_52 : decode cX11_odds 52 = .ok (.aload_n 0, 1) := by decide +kernel
theorem dX11_odds_53 : decode cX11_odds 53 = .ok (.getfield 98, 3) := by decide +kernel
theorem dX11_odds_56 : decode cX11_odds 56 = .ok (.bipush 38, 2) := by decide +kernel
theorem dX11_odds_58 : decode cX11_odds 58 = .ok (.iaload, 1) := by decide +kernel
theorem dX11_odds_59 : decode cX11_odds 59 = .ok (.iload_n 1, 1) := by decide +kernel
theorem dX11_odds_60 : decode cX11_odds 60 = .ok (.invokestatic 261, 3) := by decide +kernel
theorem dX11_odds_63 : decode cX11_odds 63 = .ok (.ifCond .ne 6, 3) := by decide +kernel
theorem dX11_odds_66 : decode cX11_odds 66 = .ok (.iinc 4 1, 3) := by decide +kernel
theorem dX11_odds_69 : decode cX11_odds 69 = .ok (.aload_n 0, 1) := by decide +kernel
theorem dX11_odds_70 : decode cX11_odds 70 = .ok (.invokevirtual 365, 3) := by decide +kernel
theorem dX11_odds_73 : decode cX11_odds 73 = .ok (.iinc 5 1, 3) := by decide +kernel
theorem dX11_odds_76 : decode cX11_odds 76 = .ok (.goto (-41), 3) := by decide +kernel
theorem dX11_odds_79 : decode cX11_odds 79 = .ok (.iload 4, 2) := by decide +kernel
theorem dX11_odds_81 : decode cX11_odds 81 = .ok (.ireturn, 1) := by decide +kernel
def fX11_odds_L35 (N : Nat) (v0 : Nat) (v1 : Int32) (v2 : Int32) (v3 : Int32) : Nat → Int32 → Int32 → Mem → Option (Int32 × Mem)
  | 0, _, _, _ => none
  | n + 1, v4, v5, M => (if v2 ≤ v5 then some (v4, M) else (if mK M v0 = 12 then ((fX11_drawHours N v0 20 (v3 + v5) M).bind fun (x48, M48) => ((fR M48 11 v0 14).bind fun x53 => ((aI M48 x53 38).bind fun x58 => ((fX11_has N x58 v1 M48).bind fun (x60, M60) => (if x60 = 0 then (if mK M60 v0 = 12 then ((fX11_takeBack N v0 M60).bind fun (u70, M70) => fX11_odds_L35 N v0 v1 v2 v3 n (v4 + 1) (v5 + 1) M70) else none) else (if mK M60 v0 = 12 then ((fX11_takeBack N v0 M60).bind fun (u70, M70) => fX11_odds_L35 N v0 v1 v2 v3 n v4 (v5 + 1) M70) else none)))))) else none))
def fX11_odds (N : Nat) (v0 : Nat) (v1 : Int32) (v2 : Int32) (v3 : Int32) (M : Mem) : Option (Int32 × Mem) := ((pI M 11 v0 0 0).bind fun M2 => (if mK M2 v0 = 12 then ((fX11_isLaw N v0 v1 M2).bind fun (x7, M7) => (if x7 = 0 then some ((-1), M7) else ((fX11_isIn N v2 1 30 M7).bind fun (x17, M17) => (if x17 = 0 then some ((-1), M17) else (if mK M17 v0 = 12 then ((fX11_layAside N v0 M17).bind fun (u26, M26) => ((fX11_odds_L35 N v0 v1 v2 v3 N 0 0 M26).bind fun o35 => some o35)) else none))))) else none))
set_option maxHeartbeats 4000000 in
set_option maxRecDepth 100000 in
theorem k_X11_odds (l : Launch) (b : Nat) (D : va_G) (cy : Nat → ClassId) (N : Nat) (v0 : Nat) (v1 : Int32) (v2 : Int32) (v3 : Int32) (M : Mem) (r : Int32) (Mf : Mem) (h : fX11_odds N v0 v1 v2 v3 M = some (r, Mf)) : Ct l yX11_odds cX11_odds 6 (some .int) 10 0 0 b D cy [.ref (b + v0), .int v1, .int v2, .int v3] M (some (.int r)) Mf := by
  refine Ct_of (own := RX11) (by decide) rfl (Nat.le_of_ble_eq_true rfl) ?_
  intro p e s m args below meth c F hr hl hmn
  unfold fX11_odds at h
  show X p l e ({ frames := 10, cells := 0, slots := 0, locals := 100 * 10 }) s m args below meth c (MQ below (Qm b D cy (some (.int r)) Mf) args s 0 0 (fun q => b ≤ q)) 6 b D cy 0 0 M 0 [(0, .ref (b + v0)), (1, .int v1), (2, .int v2), (3, .int v3)] []
  refine x_aload_n F dX11_odds_0 rfl 0 rfl ?_
  refine x_iconst F (v := 0) dX11_odds_1 (by decide) ?_
  obtain ⟨M2, c2, h⟩ := bdS h
  refine x_putI F (ci := 11) (C := RX11) (T := TX11) (N := 45) rfl ⟨by decide, rfl⟩ inU11 tyX11_ok nmX11 0 (by decide) rfl rfl wl_845 c2 dX11_odds_2 ?_
  refine x_aload_n F dX11_odds_5 rfl 0 rfl ?_
  refine x_iload_n F dX11_odds_6 rfl 1 rfl ?_
  obtain ⟨k7, h⟩ := gdS h
  obtain ⟨⟨x7, M7⟩, c7, h⟩ := bdS h
  dsimp only at h
  refine x_callV F (As := [.int v1]) (rest := []) (res := (some (.int x7))) (ci := 11) (q := (RX11, TX11, 45)) rfl (by decide) k7 (k_X11_isLaw l b D cy N v0 v1 M2 _ _ c7) wl_1054 wl_1055 wl_1056 wl_854 wl_1000 hd_X11_isLaw ⟨Nat.le_of_ble_eq_true rfl, Nat.le_of_ble_eq_true rfl⟩ ⟨Nat.le_refl _, Nat.le_refl _⟩ (Nat.le_of_ble_eq_true rfl) rfl dX11_odds_7 ?_
  refine x_if_eq F (tgt := 23) dX11_odds_10 (by decide) (fun c10 => ?_) (fun c10 => ?_)
  · rw [if_pos c10] at h
    refine x_iconst F (v := (-1)) dX11_odds_23 (by decide) ?_
    obtain ⟨rfl, rfl⟩ := retS h
    exact x_iret F hr hl dX11_odds_24
  · rw [if_neg c10] at h
    refine x_iload_n F dX11_odds_13 rfl 2 rfl ?_
    refine x_iconst F (v := 1) dX11_odds_14 (by decide) ?_
    refine x_bipush F (v := 30) dX11_odds_15 (by decide) ?_
    obtain ⟨⟨x17, M17⟩, c17, h⟩ := bdS h
    dsimp only at h
    refine x_callS F (As := [.int v2, .int 1, .int 30]) (rest := []) (res := (some (.int x17))) (k_X11_isIn l b D cy N v2 1 30 M7 _ _ c17) wl_898 wl_899 wl_854 wl_857 (hd_X11_isIn).2 ⟨Nat.le_of_ble_eq_true rfl, Nat.le_of_ble_eq_true rfl⟩ ⟨Nat.le_refl _, Nat.le_refl _⟩ (Nat.le_of_ble_eq_true rfl) rfl dX11_odds_17 ?_
    refine x_if_ne F (tgt := 25) dX11_odds_20 (by decide) (fun c20 => ?_) (fun c20 => ?_)
    · rw [if_neg c20] at h
      refine x_aload_n F dX11_odds_25 rfl 0 rfl ?_
      obtain ⟨k26, h⟩ := gdS h
      obtain ⟨⟨u26, M26⟩, c26, h⟩ := bdS h
      dsimp only at h
      refine x_callV F (As := []) (rest := []) (res := none) (ci := 11) (q := (RX11, TX11, 45)) rfl (by decide) k26 (k_X11_layAside l b D cy N v0 M17 _ _ c26) wl_1186 wl_1187 wl_1188 wl_854 wl_1184 hd_X11_layAside ⟨Nat.le_of_ble_eq_true rfl, Nat.le_of_ble_eq_true rfl⟩ ⟨Nat.le_refl _, Nat.le_refl _⟩ (Nat.le_of_ble_eq_true rfl) rfl dX11_odds_26 ?_
      refine x_iconst F (v := 0) dX11_odds_29 (by decide) ?_
      refine x_istore F (lv' := [(4, .int 0), (0, .ref (b + v0)), (1, .int v1), (2, .int v2), (3, .int v3)]) dX11_odds_30 (by decide) rfl ?_
      refine x_iconst F (v := 0) dX11_odds_32 (by decide) ?_
      refine x_istore F (lv' := [(5, .int 0), (4, .int 0), (0, .ref (b + v0)), (1, .int v1), (2, .int v2), (3, .int v3)]) dX11_odds_33 (by decide) rfl ?_
      have L35 : ∀ (v0 : Nat) (v1 : Int32) (v2 : Int32) (v3 : Int32) (n : Nat) (v4 : Int32) (v5 : Int32) (M : Mem) (o : Int32 × Mem), fX11_odds_L35 N v0 v1 v2 v3 n v4 v5 M = some o → (∀ (r' : Int32) (M' : Mem), o = (r', M') → r' = r ∧ M' = Mf) → X p l e ({ frames := 10, cells := 0, slots := 0, locals := 100 * 10 }) s m args below meth c (MQ below (Qm b D cy (some (.int r)) Mf) args s 0 0 (fun q => b ≤ q)) 6 b D cy 0 0 M 35 [(0, .ref (b + v0)), (1, .int v1), (2, .int v2), (3, .int v3), (4, .int v4), (5, .int v5)] [] := by
        intro v0 v1 v2 v3 n
        induction n with
        | zero => intro v4 v5 M o h; exact absurd h (by rw [fX11_odds_L35]; exact fun z => by cases z)
        | succ n ih =>
          intro v4 v5 M o h hR
          rw [fX11_odds_L35] at h
          refine x_iload F dX11_odds_35 5 rfl ?_
          refine x_iload_n F dX11_odds_37 rfl 2 rfl ?_
          refine x_icmp_ge F (tgt := 79) dX11_odds_38 (by decide) (fun c38 => ?_) (fun c38 => ?_)
          · rw [if_pos c38] at h
            refine x_iload F dX11_odds_79 4 rfl ?_
            obtain rfl := Option.some.inj h
            obtain ⟨rfl, rfl⟩ := hR _ _ rfl
            exact x_iret F hr hl dX11_odds_81
          · rw [if_neg c38] at h
            refine x_aload_n F dX11_odds_41 rfl 0 rfl ?_
            refine x_bipush F (v := 20) dX11_odds_42 (by decide) ?_
            refine x_iload_n F dX11_odds_44 rfl 3 rfl ?_
            refine x_iload F dX11_odds_45 5 rfl ?_
            refine x_iadd F dX11_odds_47 ?_
            obtain ⟨k48, h⟩ := gdS h
            obtain ⟨⟨x48, M48⟩, c48, h⟩ := bdS h
            dsimp only at h
            refine x_callV F (As := [.int 20, .int (v3 + v5)]) (rest := []) (res := (some (.int x48))) (ci := 11) (q := (RX11, TX11, 45)) rfl (by decide) k48 (k_X11_drawHours l b D cy N v0 20 (v3 + v5) M _ _ c48) wl_1180 wl_1181 wl_1182 wl_854 wl_1179 hd_X11_drawHours ⟨Nat.le_of_ble_eq_true rfl, Nat.le_of_ble_eq_true rfl⟩ ⟨Nat.le_refl _, Nat.le_refl _⟩ (Nat.le_of_ble_eq_true rfl) rfl dX11_odds_48 ?_
            refine x_pop F dX11_odds_51 rfl ?_
            refine x_aload_n F dX11_odds_52 rfl 0 rfl ?_
            obtain ⟨x53, c53, h⟩ := bdS h
            refine x_getR F (ci := 11) (C := RX11) (T := TX11) (N := 45) rfl ⟨by decide, rfl⟩ inU11 14 (by decide) (fun _ _ _ => rfl) wl_913 c53 dX11_odds_53 ?_
            refine x_bipush F (v := 38) dX11_odds_56 (by decide) ?_
            obtain ⟨x58, c58, h⟩ := bdS h
            refine x_aI F c58 dX11_odds_58 ?_
            refine x_iload_n F dX11_odds_59 rfl 1 rfl ?_
            obtain ⟨⟨x60, M60⟩, c60, h⟩ := bdS h
            dsimp only at h
            refine x_callS F (As := [.int x58, .int v1]) (rest := []) (res := (some (.int x60))) (k_X11_has l b D cy N x58 v1 M48 _ _ c60) wl_1057 wl_1058 wl_854 wl_858 (hd_X11_has).2 ⟨Nat.le_of_ble_eq_true rfl, Nat.le_of_ble_eq_true rfl⟩ ⟨Nat.le_refl _, Nat.le_refl _⟩ (Nat.le_of_ble_eq_true rfl) rfl dX11_odds_60 ?_
            refine x_if_ne F (tgt := 69) dX11_odds_63 (by decide) (fun c63 => ?_) (fun c63 => ?_)
            · rw [if_neg c63] at h
              refine x_aload_n F dX11_odds_69 rfl 0 rfl ?_
              obtain ⟨k70, h⟩ := gdS h
              obtain ⟨⟨u70, M70⟩, c70, h⟩ := bdS h
              dsimp only at h
              refine x_callV F (As := []) (rest := []) (res := none) (ci := 11) (q := (RX11, TX11, 45)) rfl (by decide) k70 (k_X11_takeBack l b D cy N v0 M60 _ _ c70) wl_1189 wl_1190 wl_1191 wl_854 wl_1185 hd_X11_takeBack ⟨Nat.le_of_ble_eq_true rfl, Nat.le_of_ble_eq_true rfl⟩ ⟨Nat.le_refl _, Nat.le_refl _⟩ (Nat.le_of_ble_eq_true rfl) rfl dX11_odds_70 ?_
              refine x_iinc F (v := v5 + 1) (lv' := [(5, .int (v5 + 1)), (0, .ref (b + v0)), (1, .int v1), (2, .int v2), (3, .int v3), (4, .int v4)]) dX11_odds_73 5 rfl rfl (by decide) rfl ?_
              refine x_goto F (tgt := 35) dX11_odds_76 (by decide) ?_
              refine x_sub [1, 2, 3, 4, 5, 0] rfl ?_
              exact ih v4 (v5 + 1) M70 o h hR
            · rw [if_pos c63] at h
              refine x_iinc F (v := v4 + 1) (lv' := [(4, .int (v4 + 1)), (0, .ref (b + v0)), (1, .int v1), (2, .int v2), (3, .int v3), (5, .int v5)]) dX11_odds_66 4 rfl rfl (by decide) rfl ?_
              refine x_aload_n F dX11_odds_69 rfl 1 rfl ?_
              obtain ⟨k70, h⟩ := gdS h
              obtain ⟨⟨u70, M70⟩, c70, h⟩ := bdS h
              dsimp only at h
              refine x_callV F (As := []) (rest := []) (res := none) (ci := 11) (q := (RX11, TX11, 45)) rfl (by decide) k70 (k_X11_takeBack l b D cy N v0 M60 _ _ c70) wl_1189 wl_1190 wl_1191 wl_854 wl_1185 hd_X11_takeBack ⟨Nat.le_of_ble_eq_true rfl, Nat.le_of_ble_eq_true rfl⟩ ⟨Nat.le_refl _, Nat.le_refl _⟩ (Nat.le_of_ble_eq_true rfl) rfl dX11_odds_70 ?_
              refine x_iinc F (v := v5 + 1) (lv' := [(5, .int (v5 + 1)), (4, .int (v4 + 1)), (0, .ref (b + v0)), (1, .int v1), (2, .int v2), (3, .int v3)]) dX11_odds_73 5 rfl rfl (by decide) rfl ?_
              refine x_goto F (tgt := 35) dX11_odds_76 (by decide) ?_
              refine x_sub [2, 3, 4, 5, 1, 0] rfl ?_
              exact ih (v4 + 1) (v5 + 1) M70 o h hR
      obtain ⟨o35, h35, h⟩ := bdS h
      refine x_sub [2, 3, 4, 5, 1, 0] rfl ?_
      refine L35 v0 v1 v2 v3 N 0 0 M26 o35 h35 (fun r' M' e => ?_)
      · subst e
        try dsimp only at h
        obtain ⟨rfl, rfl⟩ := retS h; exact ⟨rfl, rfl⟩
    · rw [if_pos c20] at h
      refine x_iconst F (v := (-1)) dX11_odds_23 (by decide) ?_
      obtain ⟨rfl, rfl⟩ := retS h
      exact x_iret F hr hl dX11_odds_24
theorem dX11_keeps_0 : decode cX11_keeps 0 = .ok (.iload_n 2, 1) := by decide +kernel
theorem dX11_keeps_1 : decode cX11_keeps 1 = .ok (.ifCond .eq 13, 3) := by decide +kernel
theorem dX11_keeps_4 : decode cX11_keeps 4 = .ok (.aload_n 0, 1) := by decide +kernel
theorem dX11_keeps_5 : decode cX11_keeps 5 = .ok (.getfield 145, 3) := by decide +kernel
theorem dX11_keeps_8 : decode cX11_keeps 8 = .ok (.iload_n 1, 1) := by decide +kernel
theorem dX11_keeps_9 : decode cX11_keeps 9 = .ok (.aload_n 0, 1) := by decide +kernel
theorem dX11_keeps_10 : decode cX11_keeps 10 = .ok (.getfield 79, 3) := by decide +kernel
theorem dX11_keeps_13 : decode cX11_keeps 13 = .ok (.iastore, 1) := by decide +kernel
theorem dX11_keeps_14 : decode cX11_keeps 14 = .ok (.iload_n 2, 1) := by decide +kernel
theorem dX11_keeps_15 : decode cX11_keeps 15 = .ok (.ireturn, 1) := by decide +kernel
def fX11_keeps (N : Nat) (v0 : Nat) (v1 : Int32) (v2 : Int32) (M : Mem) : Option (Int32 × Mem) := (if v2 = 0 then (if vp_nar .boolean v2 = v2 then some (v2, M) else none) else ((fR M 11 v0 36).bind fun x5 => ((fI M 11 v0 13).bind fun x10 => ((tI M x5 v1 x10).bind fun M13 => (if vp_nar .boolean v2 = v2 then some (v2, M13) else none)))))
set_option maxHeartbeats 4000000 in
set_option maxRecDepth 100000 in
theorem k_X11_keeps (l : Launch) (b : Nat) (D : va_G) (cy : Nat → ClassId) (N : Nat) (v0 : Nat) (v1 : Int32) (v2 : Int32) (M : Mem) (r : Int32) (Mf : Mem) (h : fX11_keeps N v0 v1 v2 M = some (r, Mf)) : Ct l yX11_keeps cX11_keeps 3 (some .boolean) 1 0 0 b D cy [.ref (b + v0), .int v1, .int v2] M (some (.int r)) Mf := by
  refine Ct_of (own := RX11) (by decide) rfl (Nat.le_of_ble_eq_true rfl) ?_
  intro p e s m args below meth c F hr hl hmn
  unfold fX11_keeps at h
  show X p l e ({ frames := 1, cells := 0, slots := 0, locals := 100 * 1 }) s m args below meth c (MQ below (Qm b D cy (some (.int r)) Mf) args s 0 0 (fun q => b ≤ q)) 3 b D cy 0 0 M 0 [(0, .ref (b + v0)), (1, .int v1), (2, .int v2)] []
  refine x_iload_n F dX11_keeps_0 rfl 2 rfl ?_
  refine x_if_eq F (tgt := 14) dX11_keeps_1 (by decide) (fun c1 => ?_) (fun c1 => ?_)
  · rw [if_pos c1] at h
    refine x_iload_n F dX11_keeps_14 rfl 2 rfl ?_
    obtain ⟨c15, h⟩ := gdS h
    obtain ⟨rfl, rfl⟩ := retS h
    exact x_zret F hr hl c15 dX11_keeps_15
  · rw [if_neg c1] at h
    refine x_aload_n F dX11_keeps_4 rfl 0 rfl ?_
    obtain ⟨x5, c5, h⟩ := bdS h
    refine x_getR F (ci := 11) (C := RX11) (T := TX11) (N := 45) rfl ⟨by decide, rfl⟩ inU11 36 (by decide) (fun _ _ _ => rfl) wl_929 c5 dX11_keeps_5 ?_
    refine x_iload_n F dX11_keeps_8 rfl 1 rfl ?_
    refine x_aload_n F dX11_keeps_9 rfl 0 rfl ?_
    obtain ⟨x10, c10, h⟩ := bdS h
    refine x_getI F (ci := 11) (C := RX11) (T := TX11) (N := 45) rfl ⟨by decide, rfl⟩ inU11 13 (by decide) (fun _ _ _ => rfl) wl_894 c10 dX11_keeps_10 ?_
    obtain ⟨M13, c13, h⟩ := bdS h
    refine x_tI F c13 dX11_keeps_13 ?_
    refine x_iload_n F dX11_keeps_14 rfl 2 rfl ?_
    obtain ⟨c15, h⟩ := gdS h
    obtain ⟨rfl, rfl⟩ := retS h
    exact x_zret F hr hl c15 dX11_keeps_15
theorem dX11_readNamed_0 : decode cX11_readNamed 0 = .ok (.aload_n 0, 1) := by decide +kernel
theorem dX11_readNamed_1 : decode cX11_readNamed 1 = .ok (.invokevirtual 161, 3) := by decide +kernel
theorem dX11_readNamed_4 : decode cX11_readNamed 4 = .ok (.ifCond .ne 9, 3) := by decide +kernel
theorem dX11_readNamed_7 : decode cX11_readNamed 7 = .ok (.aload_n 0, 1) := by decide +kernel
theorem dX11_readNamed_8 : decode cX11_readNamed 8 = .ok (.iconst 1, 1) := by decide +kernel
theorem dX11_readNamed_9 : decode cX11_readNamed 9 = .ok (.invokevirtual 72, 3) := by decide +kernel
theorem dX11_readNamed_12 : decode cX11_readNamed 12 = .ok (.ireturn, 1) := by decide +kernel
theorem dX11_readNamed_13 : decode cX11_readNamed 13 = .ok (.aload_n 0, 1) := by decide +kernel
theorem dX11_readNamed_14 : decode cX11_readNamed 14 = .ok (.aload_n 0, 1) := by decide +kernel
theorem dX11_readNamed_15 : decode cX11_readNamed 15 = .ok (.getfield 113, 3) := by decide +kernel
theorem dX11_readNamed_18 : decode cX11_readNamed 18 = .ok (.iload_n 1, 1) := by decide +kernel
theorem dX11_readNamed_19 : decode cX11_readNamed 19 = .ok (.iload_n 2, 1) := by decide +kernel
theorem dX11_readNamed_20 : decode cX11_readNamed 20 = .ok (.aload_n 0, 1) := by decide +kernel
theorem dX11_readNamed_21 : decode cX11_readNamed 21 = .ok (.getfield 43, 3) := by decide +kernel
theorem dX11_readNamed_24 : decode cX11_readNamed 24 = .ok (.invokestatic 157, 3) := by decide +kernel
theorem dX11_readNamed_27 : decode cX11_readNamed 27 = .ok (.putfield 79, 3) := by decide +kernel
theorem dX11_readNamed_30 : decode cX11_readNamed 30 = .ok (.aload_n 0, 1) := by decide +kernel
theorem dX11_readNamed_31 : decode cX11_readNamed 31 = .ok (.getfield 79, 3) := by decide +kernel
theorem dX11_readNamed_34 : decode cX11_readNamed 34 = .ok (.iconst (-1), 1) := by decide +kernel
theorem dX11_readNamed_35 : decode cX11_readNamed 35 = .ok (.if_icmp .ne 9, 3) := by decide +kernel
theorem dX11_readNamed_38 : decode cX11_readNamed 38 = .ok (.aload_n 0, 1) := by decide +kernel
theorem dX11_readNamed_39 : decode cX11_readNamed 39 = .ok (.iconst 3, 1) := by decide +kernel
theorem dX11_readNamed_40 : decode cX11_readNamed 40 = .ok (.invokevirtual 72, 3) := by decide +kernel
theorem dX11_readNamed_43 : decode cX11_readNamed 43 = .ok (.ireturn, 1) := by decide +kernel
theorem dX11_readNamed_44 : decode cX11_readNamed 44 = .ok (.aload_n 0, 1) := by decide +kernel
theorem dX11_readNamed_45 : decode cX11_readNamed 45 = .ok (.invokevirtual 82, 3) := by decide +kernel
theorem dX11_readNamed_48 : decode cX11_readNamed 48 = .ok (.iconst 1, 1) := by decide +kernel
theorem dX11_readNamed_49 : decode cX11_readNamed 49 = .ok (.ireturn, 1) := by decide +kernel
def fX11_readNamed (N : Nat) (v0 : Nat) (v1 : Int32) (v2 : Int32) (M : Mem) : Option (Int32 × Mem) := (if mK M v0 = 12 then ((fX11_isName N v0 M).bind fun (x1, M1) => (if x1 = 0 then (if mK M1 v0 = 12 then ((fX11_bad N v0 1 M1).bind fun (x9, M9) => (if vp_nar .boolean x9 = x9 then some (x9, M9) else none)) else none) else ((fR M1 11 v0 19).bind fun x15 => ((fL M1 11 v0 12).bind fun x21 => ((fX11_findIn N x15 v1 v2 x21 M1).bind fun (x24, M24) => ((pI M24 11 v0 13 x24).bind fun M27 => ((fI M27 11 v0 13).bind fun x31 => (if x31 = ((-1)) then (if mK M27 v0 = 12 then ((fX11_bad N v0 3 M27).bind fun (x40, M40) => (if vp_nar .boolean x40 = x40 then some (x40, M40) else none)) else none) else (if mK M27 v0 = 12 then ((fX11_go N v0 M27).bind fun (u45, M45) => some (1, M45)) else none))))))))) else none)
set_option maxHeartbeats 4000000 in
set_option maxRecDepth 100000 in
theorem k_X11_readNamed (l : Launch) (b : Nat) (D : va_G) (cy : Nat → ClassId) (N : Nat) (v0 : Nat) (v1 : Int32) (v2 : Int32) (M : Mem) (r : Int32) (Mf : Mem) (h : fX11_readNamed N v0 v1 v2 M = some (r, Mf)) : Ct l yX11_readNamed cX11_readNamed 3 (some .boolean) 4 0 0 b D cy [.ref (b + v0), .int v1, .int v2] M (some (.int r)) Mf := by
  refine Ct_of (own := RX11) (by decide) rfl (Nat.le_of_ble_eq_true rfl) ?_
  intro p e s m args below meth c F hr hl hmn
  unfold fX11_readNamed at h
  show X p l e ({ frames := 4, cells := 0, slots := 0, locals := 100 * 4 }) s m args below meth c (MQ below (Qm b D cy (some (.int r)) Mf) args s 0 0 (fun q => b ≤ q)) 3 b D cy 0 0 M 0 [(0, .ref (b + v0)), (1, .int v1), (2, .int v2)] []
  refine x_aload_n F dX11_readNamed_0 rfl 0 rfl ?_
  obtain ⟨k1, h⟩ := gdS h
  obtain ⟨⟨x1, M1⟩, c1, h⟩ := bdS h
  dsimp only at h
  refine x_callV F (As := []) (rest := []) (res := (some (.int x1))) (ci := 11) (q := (RX11, TX11, 45)) rfl (by decide) k1 (k_X11_isName l b D cy N v0 M _ _ c1) wl_940 wl_941 wl_942 wl_854 wl_890 hd_X11_isName ⟨Nat.le_of_ble_eq_true rfl, Nat.le_of_ble_eq_true rfl⟩ ⟨Nat.le_refl _, Nat.le_refl _⟩ (Nat.le_of_ble_eq_true rfl) rfl dX11_readNamed_1 ?_
  refine x_if_ne F (tgt := 13) dX11_readNamed_4 (by decide) (fun c4 => ?_) (fun c4 => ?_)
  · rw [if_neg c4] at h
    refine x_aload_n F dX11_readNamed_13 rfl 0 rfl ?_
    refine x_aload_n F dX11_readNamed_14 rfl 0 rfl ?_
    obtain ⟨x15, c15, h⟩ := bdS h
    refine x_getR F (ci := 11) (C := RX11) (T := TX11) (N := 45) rfl ⟨by decide, rfl⟩ inU11 19 (by decide) (fun _ _ _ => rfl) wl_919 c15 dX11_readNamed_15 ?_
    refine x_iload_n F dX11_readNamed_18 rfl 1 rfl ?_
    refine x_iload_n F dX11_readNamed_19 rfl 2 rfl ?_
    refine x_aload_n F dX11_readNamed_20 rfl 0 rfl ?_
    obtain ⟨x21, c21, h⟩ := bdS h
    refine x_getL F (ci := 11) (C := RX11) (T := TX11) (N := 45) rfl ⟨by decide, rfl⟩ inU11 12 (by decide) (fun _ _ _ => rfl) wl_871 c21 dX11_readNamed_21 ?_
    obtain ⟨⟨x24, M24⟩, c24, h⟩ := bdS h
    dsimp only at h
    refine x_callS F (As := [.ref (b + x15), .int v1, .int v2, .long x21]) (rest := [.ref (b + v0)]) (res := (some (.int x24))) (k_X11_findIn l b D cy N x15 v1 v2 x21 M1 _ _ c24) wl_938 wl_939 wl_854 wl_936 (hd_X11_findIn).2 ⟨Nat.le_of_ble_eq_true rfl, Nat.le_of_ble_eq_true rfl⟩ ⟨Nat.le_refl _, Nat.le_refl _⟩ (Nat.le_of_ble_eq_true rfl) rfl dX11_readNamed_24 ?_
    obtain ⟨M27, c27, h⟩ := bdS h
    refine x_putI F (ci := 11) (C := RX11) (T := TX11) (N := 45) rfl ⟨by decide, rfl⟩ inU11 tyX11_ok nmX11 13 (by decide) rfl rfl wl_894 c27 dX11_readNamed_27 ?_
    refine x_aload_n F dX11_readNamed_30 rfl 0 rfl ?_
    obtain ⟨x31, c31, h⟩ := bdS h
    refine x_getI F (ci := 11) (C := RX11) (T := TX11) (N := 45) rfl ⟨by decide, rfl⟩ inU11 13 (by decide) (fun _ _ _ => rfl) wl_894 c31 dX11_readNamed_31 ?_
    refine x_iconst F (v := (-1)) dX11_readNamed_34 (by decide) ?_
    refine x_icmp_ne F (tgt := 44) dX11_readNamed_35 (by decide) (fun c35 => ?_) (fun c35 => ?_)
    · rw [if_neg c35] at h
      refine x_aload_n F dX11_readNamed_44 rfl 0 rfl ?_
      obtain ⟨k45, h⟩ := gdS h
      obtain ⟨⟨u45, M45⟩, c45, h⟩ := bdS h
      dsimp only at h
      refine x_callV F (As := []) (rest := []) (res := none) (ci := 11) (q := (RX11, TX11, 45)) rfl (by decide) k45 (k_X11_go l b D cy N v0 M27 _ _ c45) wl_900 wl_901 wl_902 wl_854 wl_865 hd_X11_go ⟨Nat.le_of_ble_eq_true rfl, Nat.le_of_ble_eq_true rfl⟩ ⟨Nat.le_refl _, Nat.le_refl _⟩ (Nat.le_of_ble_eq_true rfl) rfl dX11_readNamed_45 ?_
      refine x_iconst F (v := 1) dX11_readNamed_48 (by decide) ?_
      obtain ⟨rfl, rfl⟩ := retS h
      exact x_zret F hr hl (by decide) dX11_readNamed_49
    · rw [if_pos c35] at h
      refine x_aload_n F dX11_readNamed_38 rfl 0 rfl ?_
      refine x_iconst F (v := 3) dX11_readNamed_39 (by decide) ?_
      obtain ⟨k40, h⟩ := gdS h
      obtain ⟨⟨x40, M40⟩, c40, h⟩ := bdS h
      dsimp only at h
      refine x_callV F (As := [.int 3]) (rest := []) (res := (some (.int x40))) (ci := 11) (q := (RX11, TX11, 45)) rfl (by decide) k40 (k_X11_bad l b D cy N v0 3 M27 _ _ c40) wl_895 wl_896 wl_897 wl_854 wl_891 hd_X11_bad ⟨Nat.le_of_ble_eq_true rfl, Nat.le_of_ble_eq_true rfl⟩ ⟨Nat.le_refl _, Nat.le_refl _⟩ (Nat.le_of_ble_eq_true rfl) rfl dX11_readNamed_40 ?_
      obtain ⟨c43, h⟩ := gdS h
      obtain ⟨rfl, rfl⟩ := retS h
      exact x_zret F hr hl c43 dX11_readNamed_43
  · rw [if_pos c4] at h
    refine x_aload_n F dX11_readNamed_7 rfl 0 rfl ?_
    refine x_iconst F (v := 1) dX11_readNamed_8 (by decide) ?_
    obtain ⟨k9, h⟩ := gdS h
    obtain ⟨⟨x9, M9⟩, c9, h⟩ := bdS h
    dsimp only at h
    refine x_callV F (As := [.int 1]) (rest := []) (res := (some (.int x9))) (ci := 11) (q := (RX11, TX11, 45)) rfl (by decide) k9 (k_X11_bad l b D cy N v0 1 M1 _ _ c9) wl_895 wl_896 wl_897 wl_854 wl_891 hd_X11_bad ⟨Nat.le_of_ble_eq_true rfl, Nat.le_of_ble_eq_true rfl⟩ ⟨Nat.le_refl _, Nat.le_refl _⟩ (Nat.le_of_ble_eq_true rfl) rfl dX11_readNamed_9 ?_
    obtain ⟨c12, h⟩ := gdS h
    obtain ⟨rfl, rfl⟩ := retS h
    exact x_zret F hr hl c12 dX11_readNamed_12
theorem hd_X11_readNamed : (yX11_readNamed).cls = RX11 ∧ (yX11_readNamed).cls ≠ "java/lang/invoke/MethodHandle" ∧ (yX11_readNamed).cls ≠ "java/lang/invoke/VarHandle" ∧ (parseMethodDescriptor (yX11_readNamed).desc).map (fun d => d.parameters.length) = some 2 := by decide +kernel
theorem hd_X11_keeps : (yX11_keeps).cls = RX11 ∧ (yX11_keeps).cls ≠ "java/lang/invoke/MethodHandle" ∧ (yX11_keeps).cls ≠ "java/lang/invoke/VarHandle" ∧ (parseMethodDescriptor (yX11_keeps).desc).map (fun d => d.parameters.length) = some 2 := by decide +kernel
theorem dX11_readWhere_0 : decode cX11_readWhere 0 = .ok (.aload_n 0, 1) := by decide +kernel
theorem dX11_readWhere_1 : decode cX11_readWhere 1 = .ok (.iload_n 1, 1) := by decide +kernel
theorem dX11_readWhere_2 : decode cX11_readWhere 2 = .ok (.iconst 2, 1) := by decide +kernel
theorem dX11_readWhere_3 : decode cX11_readWhere 3 = .ok (.iadd, 1) := by decide +kernel
theorem dX11_readWhere_4 : decode cX11_readWhere 4 = .ok (.aload_n 0, 1) := by decide +kernel
theorem dX11_readWhere_5 : decode cX11_readWhere 5 = .ok (.iconst 0, 1) := by decide +kernel
theorem dX11_readWhere_6 : decode cX11_readWhere 6 = .ok (.aload_n 0, 1) := by decide +kernel
theorem dX11_readWhere_7 : decode cX11_readWhere 7 = .ok (.getfield 98, 3) := by decide +kernel
theorem dX11_readWhere_10 : decode cX11_readWhere 10 = .ok (.iconst 0, 1) := by decide +kernel
theorem dX11_readWhere_11 : decode cX11_readWhere 11 = .ok (.iaload, 1) := by decide +kernel
theorem dX11_readWhere_12 : decode cX11_readWhere 12 = .ok (.invokevirtual 368, 3) := by decide +kernel
theorem dX11_readWhere_15 : decode cX11_readWhere 15 = .ok (.invokevirtual 371, 3) := by decide +kernel
theorem dX11_readWhere_18 : decode cX11_readWhere 18 = .ok (.ifCond .eq 24, 3) := by decide +kernel
theorem dX11_readWhere_21 : decode cX11_readWhere 21 = .ok (.aload_n 0, 1) := by decide +kernel
theorem dX11_readWhere_22 : decode cX11_readWhere 22 = .ok (.iload_n 1, 1) := by decide +kernel
theorem dX11_readWhere_23 : decode cX11_readWhere 23 = .ok (.iconst 3, 1) := by decide +kernel
theorem dX11_readWhere_24 : decode cX11_readWhere 24 = .ok (.iadd, 1) := by decide +kernel
theorem dX11_readWhere_25 : decode cX11_readWhere 25 = .ok (.aload_n 0, 1) := by decide +kernel
theorem dX11_readWhere_26 : decode cX11_readWhere 26 = .ok (.iconst 0, 1) := by decide +kernel
theorem dX11_readWhere_27 : decode cX11_readWhere 27 = .ok (.bipush 11, 2) := by decide +kernel
theorem dX11_readWhere_29 : decode cX11_readWhere 29 = .ok (.invokevirtual 175, 3) := by decide +kernel
theorem dX11_readWhere_32 : decode cX11_readWhere 32 = .ok (.invokevirtual 371, 3) := by decide +kernel
theorem dX11_readWhere_35 : decode cX11_readWhere 35 = .ok (.ifCond .eq 7, 3) := by decide +kernel
theorem dX11_readWhere_38 : decode cX11_readWhere 38 = .ok (.iconst 1, 1) := by decide +kernel
theorem dX11_readWhere_39 : decode cX11_readWhere 39 = .ok (.goto 4, 3) := by decide +kernel
theorem dX11_readWhere_42 : decode cX11_readWhere 42 = .ok (.iconst 0, 1) := by decide +kernel
theorem dX11_readWhere_43 : decode cX11_readWhere 43 = .ok (.ireturn, 1) := by decide +kernel
def fX11_readWhere (N : Nat) (v0 : Nat) (v1 : Int32) (M : Mem) : Option (Int32 × Mem) := ((fR M 11 v0 14).bind fun x7 => ((aI M x7 0).bind fun x11 => (if mK M v0 = 12 then ((fX11_readNamed N v0 0 x11 M).bind fun (x12, M12) => (if mK M12 v0 = 12 then ((fX11_keeps N v0 (v1 + 2) x12 M12).bind fun (x15, M15) => (if x15 = 0 then some (0, M15) else (if mK M15 v0 = 12 then ((fX11_readNumber N v0 0 11 M15).bind fun (x29, M29) => (if mK M29 v0 = 12 then ((fX11_keeps N v0 (v1 + 3) x29 M29).bind fun (x32, M32) => (if x32 = 0 then some (0, M32) else some (1, M32))) else none)) else none))) else none)) else none)))
set_option maxHeartbeats 4000000 in
set_option maxRecDepth 100000 in
theorem k_X11_readWhere (l : Launch) (b : Nat) (D : va_G) (cy : Nat → ClassId) (N : Nat) (v0 : Nat) (v1 : Int32) (M : Mem) (r : Int32) (Mf : Mem) (h : fX11_readWhere N v0 v1 M = some (r, Mf)) : Ct l yX11_readWhere cX11_readWhere 2 (some .boolean) 5 0 0 b D cy [.ref (b + v0), .int v1] M (some (.int r)) Mf := by
  refine Ct_of (own := RX11) (by decide) rfl (Nat.le_of_ble_eq_true rfl) ?_
  intro p e s m args below meth c F hr hl hmn
  unfold fX11_readWhere at h
  show X p l e ({ frames := 5, cells := 0, slots := 0, locals := 100 * 5 }) s m args below meth c (MQ below (Qm b D cy (some (.int r)) Mf) args s 0 0 (fun q => b ≤ q)) 2 b D cy 0 0 M 0 [(0, .ref (b + v0)), (1, .int v1)] []
  refine x_aload_n F dX11_readWhere_0 rfl 0 rfl ?_
  refine x_iload_n F dX11_readWhere_1 rfl 1 rfl ?_
  refine x_iconst F (v := 2) dX11_readWhere_2 (by decide) ?_
  refine x_iadd F dX11_readWhere_3 ?_
  refine x_aload_n F dX11_readWhere_4 rfl 0 rfl ?_
  refine x_iconst F (v := 0) dX11_readWhere_5 (by decide) ?_
  refine x_aload_n F dX11_readWhere_6 rfl 0 rfl ?_
  obtain ⟨x7, c7, h⟩ := bdS h
  refine x_getR F (ci := 11) (C := RX11) (T := TX11) (N := 45) rfl ⟨by decide, rfl⟩ inU11 14 (by decide) (fun _ _ _ => rfl) wl_913 c7 dX11_readWhere_7 ?_
  refine x_iconst F (v := 0) dX11_readWhere_10 (by decide) ?_
  obtain ⟨x11, c11, h⟩ := bdS h
  refine x_aI F c11 dX11_readWhere_11 ?_
  obtain ⟨k12, h⟩ := gdS h
  obtain ⟨⟨x12, M12⟩, c12, h⟩ := bdS h
  dsimp only at h
  refine x_callV F (As := [.int 0, .int x11]) (rest := [.int (v1 + 2), .ref (b + v0)]) (res := (some (.int x12))) (ci := 11) (q := (RX11, TX11, 45)) rfl (by decide) k12 (k_X11_readNamed l b D cy N v0 0 x11 M _ _ c12) wl_1195 wl_1196 wl_1197 wl_854 wl_1194 hd_X11_readNamed ⟨Nat.le_of_ble_eq_true rfl, Nat.le_of_ble_eq_true rfl⟩ ⟨Nat.le_refl _, Nat.le_refl _⟩ (Nat.le_of_ble_eq_true rfl) rfl dX11_readWhere_12 ?_
  obtain ⟨k15, h⟩ := gdS h
  obtain ⟨⟨x15, M15⟩, c15, h⟩ := bdS h
  dsimp only at h
  refine x_callV F (As := [.int (v1 + 2), .int x12]) (rest := []) (res := (some (.int x15))) (ci := 11) (q := (RX11, TX11, 45)) rfl (by decide) k15 (k_X11_keeps l b D cy N v0 (v1 + 2) x12 M12 _ _ c15) wl_1198 wl_1199 wl_1200 wl_854 wl_1193 hd_X11_keeps ⟨Nat.le_of_ble_eq_true rfl, Nat.le_of_ble_eq_true rfl⟩ ⟨Nat.le_refl _, Nat.le_refl _⟩ (Nat.le_of_ble_eq_true rfl) rfl dX11_readWhere_15 ?_
  refine x_if_eq F (tgt := 42) dX11_readWhere_18 (by decide) (fun c18 => ?_) (fun c18 => ?_)
  · rw [if_pos c18] at h
    refine x_iconst F (v := 0) dX11_readWhere_42 (by decide) ?_
    obtain ⟨rfl, rfl⟩ := retS h
    exact x_zret F hr hl (by decide) dX11_readWhere_43
  · rw [if_neg c18] at h
    refine x_aload_n F dX11_readWhere_21 rfl 0 rfl ?_
    refine x_iload_n F dX11_readWhere_22 rfl 1 rfl ?_
    refine x_iconst F (v := 3) dX11_readWhere_23 (by decide) ?_
    refine x_iadd F dX11_readWhere_24 ?_
    refine x_aload_n F dX11_readWhere_25 rfl 0 rfl ?_
    refine x_iconst F (v := 0) dX11_readWhere_26 (by decide) ?_
    refine x_bipush F (v := 11) dX11_readWhere_27 (by decide) ?_
    obtain ⟨k29, h⟩ := gdS h
    obtain ⟨⟨x29, M29⟩, c29, h⟩ := bdS h
    dsimp only at h
    refine x_callV F (As := [.int 0, .int 11]) (rest := [.int (v1 + 3), .ref (b + v0)]) (res := (some (.int x29))) (ci := 11) (q := (RX11, TX11, 45)) rfl (by decide) k29 (k_X11_readNumber l b D cy N v0 0 11 M15 _ _ c29) wl_955 wl_956 wl_957 wl_854 wl_903 hd_X11_readNumber ⟨Nat.le_of_ble_eq_true rfl, Nat.le_of_ble_eq_true rfl⟩ ⟨Nat.le_refl _, Nat.le_refl _⟩ (Nat.le_of_ble_eq_true rfl) rfl dX11_readWhere_29 ?_
    obtain ⟨k32, h⟩ := gdS h
    obtain ⟨⟨x32, M32⟩, c32, h⟩ := bdS h
    dsimp only at h
    refine x_callV F (As := [.int (v1 + 3), .int x29]) (rest := []) (res := (some (.int x32))) (ci := 11) (q := (RX11, TX11, 45)) rfl (by decide) k32 (k_X11_keeps l b D cy N v0 (v1 + 3) x29 M29 _ _ c32) wl_1198 wl_1199 wl_1200 wl_854 wl_1193 hd_X11_keeps ⟨Nat.le_of_ble_eq_true rfl, Nat.le_of_ble_eq_true rfl⟩ ⟨Nat.le_refl _, Nat.le_refl _⟩ (Nat.le_of_ble_eq_true rfl) rfl dX11_readWhere_32 ?_
    refine x_if_eq F (tgt := 42) dX11_readWhere_35 (by decide) (fun c35 => ?_) (fun c35 => ?_)
    · rw [if_pos c35] at h
      refine x_iconst F (v := 0) dX11_readWhere_42 (by decide) ?_
      obtain ⟨rfl, rfl⟩ := retS h
      exact x_zret F hr hl (by decide) dX11_readWhere_43
    · rw [if_neg c35] at h
      refine x_iconst F (v := 1) dX11_readWhere_38 (by decide) ?_
      refine x_goto F (tgt := 43) dX11_readWhere_39 (by decide) ?_
      obtain ⟨rfl, rfl⟩ := retS h
      exact x_zret F hr hl (by decide) dX11_readWhere_43
theorem hd_X11_readWhere : (yX11_readWhere).cls = RX11 ∧ (yX11_readWhere).cls ≠ "java/lang/invoke/MethodHandle" ∧ (yX11_readWhere).cls ≠ "java/lang/invoke/VarHandle" ∧ (parseMethodDescriptor (yX11_readWhere).desc).map (fun d => d.parameters.length) = some 1 := by decide +kernel
theorem dX11_readWrites_0 : decode cX11_readWrites 0 = .ok (.aload_n 0, 1) := by decide +kernel
theorem dX11_readWrites_1 : decode cX11_readWrites 1 = .ok (.iconst 5, 1) := by decide +kernel
theorem dX11_readWrites_2 : decode cX11_readWrites 2 = .ok (.invokevirtual 186, 3) := by decide +kernel
theorem dX11_readWrites_5 : decode cX11_readWrites 5 = .ok (.ifCond .ne 9, 3) := by decide +kernel
theorem dX11_readWrites_8 : decode cX11_readWrites 8 = .ok (.aload_n 0, 1) := by decide +kernel
theorem dX11_readWrites_9 : decode cX11_readWrites 9 = .ok (.iconst 1, 1) := by decide +kernel
theorem dX11_readWrites_10 : decode cX11_readWrites 10 = .ok (.invokevirtual 72, 3) := by decide +kernel
theorem dX11_readWrites_13 : decode cX11_readWrites 13 = .ok (.ireturn, 1) := by decide +kernel
theorem dX11_readWrites_14 : decode cX11_readWrites 14 = .ok (.aload_n 0, 1) := by decide +kernel
theorem dX11_readWrites_15 : decode cX11_readWrites 15 = .ok (.invokevirtual 82, 3) := by decide +kernel
theorem dX11_readWrites_18 : decode cX11_readWrites 18 = .ok (.aload_n 0, 1) := by decide +kernel
theorem dX11_readWrites_19 : decode cX11_readWrites 19 = .ok (.iload_n 1, 1) := by decide +kernel
theorem dX11_readWrites_20 : decode cX11_readWrites 20 = .ok (.invokevirtual 374, 3) := by decide +kernel
theorem dX11_readWrites_23 : decode cX11_readWrites 23 = .ok (.ifCond .eq 24, 3) := by decide +kernel
theorem dX11_readWrites_26 : decode cX11_readWrites 26 = .ok (.aload_n 0, 1) := by decide +kernel
theorem dX11_readWrites_27 : decode cX11_readWrites 27 = .ok (.iload_n 1, 1) := by decide +kernel
theorem dX11_readWrites_28 : decode cX11_readWrites 28 = .ok (.iconst 4, 1) := by decide +kernel
theorem dX11_readWrites_29 : decode cX11_readWrites 29 = .ok (.iadd, 1) := by decide +kernel
theorem dX11_readWrites_30 : decode cX11_readWrites 30 = .ok (.aload_n 0, 1) := by decide +kernel
theorem dX11_readWrites_31 : decode cX11_readWrites 31 = .ok (.iconst 0, 1) := by decide +kernel
theorem dX11_readWrites_32 : decode cX11_readWrites 32 = .ok (.bipush 9, 2) := by decide +kernel
theorem dX11_readWrites_34 : decode cX11_readWrites 34 = .ok (.invokevirtual 175, 3) := by decide +kernel
theorem dX11_readWrites_37 : decode cX11_readWrites 37 = .ok (.invokevirtual 371, 3) := by decide +kernel
theorem dX11_readWrites_40 : decode cX11_readWrites 40 = .ok (.ifCond .eq 7, 3) := by decide +kernel
theorem dX11_readWrites_43 : decode cX11_readWrites 43 = .ok (.iconst 1, 1) := by decide +kernel
theorem dX11_readWrites_44 : decode cX11_readWrites 44 = .ok (.goto 4, 3) := by decide +kernel
theorem dX11_readWrites_47 : decode cX11_readWrites 47 = .ok (.iconst 0, 1) := by decide +kernel
theorem dX11_readWrites_48 : decode cX11_readWrites 48 = .ok (.ireturn, 1) := by decide +kernel
def fX11_readWrites (N : Nat) (v0 : Nat) (v1 : Int32) (M : Mem) : Option (Int32 × Mem) := (if mK M v0 = 12 then ((fX11_isWord N v0 5 M).bind fun (x2, M2) => (if x2 = 0 then (if mK M2 v0 = 12 then ((fX11_bad N v0 1 M2).bind fun (x10, M10) => (if vp_nar .boolean x10 = x10 then some (x10, M10) else none)) else none) else (if mK M2 v0 = 12 then ((fX11_go N v0 M2).bind fun (u15, M15) => (if mK M15 v0 = 12 then ((fX11_readWhere N v0 v1 M15).bind fun (x20, M20) => (if x20 = 0 then some (0, M20) else (if mK M20 v0 = 12 then ((fX11_readNumber N v0 0 9 M20).bind fun (x34, M34) => (if mK M34 v0 = 12 then ((fX11_keeps N v0 (v1 + 4) x34 M34).bind fun (x37, M37) => (if x37 = 0 then some (0, M37) else some (1, M37))) else none)) else none))) else none)) else none))) else none)
set_option maxHeartbeats 4000000 in
set_option maxRecDepth 100000 in
theorem k_X11_readWrites (l : Launch) (b : Nat) (D : va_G) (cy : Nat → ClassId) (N : Nat) (v0 : Nat) (v1 : Int32) (M : Mem) (r : Int32) (Mf : Mem) (h : fX11_readWrites N v0 v1 M = some (r, Mf)) : Ct l yX11_readWrites cX11_readWrites 2 (some .boolean) 6 0 0 b D cy [.ref (b + v0), .int v1] M (some (.int r)) Mf := by
  refine Ct_of (own := RX11) (by decide) rfl (Nat.le_of_ble_eq_true rfl) ?_
  intro p e s m args below meth c F hr hl hmn
  unfold fX11_readWrites at h
  show X p l e ({ frames := 6, cells := 0, slots := 0, locals := 100 * 6 }) s m args below meth c (MQ below (Qm b D cy (some (.int r)) Mf) args s 0 0 (fun q => b ≤ q)) 2 b D cy 0 0 M 0 [(0, .ref (b + v0)), (1, .int v1)] []
  refine x_aload_n F dX11_readWrites_0 rfl 0 rfl ?_
  refine x_iconst F (v := 5) dX11_readWrites_1 (by decide) ?_
  obtain ⟨k2, h⟩ := gdS h
  obtain ⟨⟨x2, M2⟩, c2, h⟩ := bdS h
  dsimp only at h
  refine x_callV F (As := [.int 5]) (rest := []) (res := (some (.int x2))) (ci := 11) (q := (RX11, TX11, 45)) rfl (by decide) k2 (k_X11_isWord l b D cy N v0 5 M _ _ c2) wl_967 wl_968 wl_969 wl_854 wl_886 hd_X11_isWord ⟨Nat.le_of_ble_eq_true rfl, Nat.le_of_ble_eq_true rfl⟩ ⟨Nat.le_refl _, Nat.le_refl _⟩ (Nat.le_of_ble_eq_true rfl) rfl dX11_readWrites_2 ?_
  refine x_if_ne F (tgt := 14) dX11_readWrites_5 (by decide) (fun c5 => ?_) (fun c5 => ?_)
  · rw [if_neg c5] at h
    refine x_aload_n F dX11_readWrites_14 rfl 0 rfl ?_
    obtain ⟨k15, h⟩ := gdS h
    obtain ⟨⟨u15, M15⟩, c15, h⟩ := bdS h
    dsimp only at h
    refine x_callV F (As := []) (rest := []) (res := none) (ci := 11) (q := (RX11, TX11, 45)) rfl (by decide) k15 (k_X11_go l b D cy N v0 M2 _ _ c15) wl_900 wl_901 wl_902 wl_854 wl_865 hd_X11_go ⟨Nat.le_of_ble_eq_true rfl, Nat.le_of_ble_eq_true rfl⟩ ⟨Nat.le_refl _, Nat.le_refl _⟩ (Nat.le_of_ble_eq_true rfl) rfl dX11_readWrites_15 ?_
    refine x_aload_n F dX11_readWrites_18 rfl 0 rfl ?_
    refine x_iload_n F dX11_readWrites_19 rfl 1 rfl ?_
    obtain ⟨k20, h⟩ := gdS h
    obtain ⟨⟨x20, M20⟩, c20, h⟩ := bdS h
    dsimp only at h
    refine x_callV F (As := [.int v1]) (rest := []) (res := (some (.int x20))) (ci := 11) (q := (RX11, TX11, 45)) rfl (by decide) k20 (k_X11_readWhere l b D cy N v0 v1 M15 _ _ c20) wl_1202 wl_1203 wl_1204 wl_854 wl_1201 hd_X11_readWhere ⟨Nat.le_of_ble_eq_true rfl, Nat.le_of_ble_eq_true rfl⟩ ⟨Nat.le_refl _, Nat.le_refl _⟩ (Nat.le_of_ble_eq_true rfl) rfl dX11_readWrites_20 ?_
    refine x_if_eq F (tgt := 47) dX11_readWrites_23 (by decide) (fun c23 => ?_) (fun c23 => ?_)
    · rw [if_pos c23] at h
      refine x_iconst F (v := 0) dX11_readWrites_47 (by decide) ?_
      obtain ⟨rfl, rfl⟩ := retS h
      exact x_zret F hr hl (by decide) dX11_readWrites_48
    · rw [if_neg c23] at h
      refine x_aload_n F dX11_readWrites_26 rfl 0 rfl ?_
      refine x_iload_n F dX11_readWrites_27 rfl 1 rfl ?_
      refine x_iconst F (v := 4) dX11_readWrites_28 (by decide) ?_
      refine x_iadd F dX11_readWrites_29 ?_
      refine x_aload_n F dX11_readWrites_30 rfl 0 rfl ?_
      refine x_iconst F (v := 0) dX11_readWrites_31 (by decide) ?_
      refine x_bipush F (v := 9) dX11_readWrites_32 (by decide) ?_
      obtain ⟨k34, h⟩ := gdS h
      obtain ⟨⟨x34, M34⟩, c34, h⟩ := bdS h
      dsimp only at h
      refine x_callV F (As := [.int 0, .int 9]) (rest := [.int (v1 + 4), .ref (b + v0)]) (res := (some (.int x34))) (ci := 11) (q := (RX11, TX11, 45)) rfl (by decide) k34 (k_X11_readNumber l b D cy N v0 0 9 M20 _ _ c34) wl_955 wl_956 wl_957 wl_854 wl_903 hd_X11_readNumber ⟨Nat.le_of_ble_eq_true rfl, Nat.le_of_ble_eq_true rfl⟩ ⟨Nat.le_refl _, Nat.le_refl _⟩ (Nat.le_of_ble_eq_true rfl) rfl dX11_readWrites_34 ?_
      obtain ⟨k37, h⟩ := gdS h
      obtain ⟨⟨x37, M37⟩, c37, h⟩ := bdS h
      dsimp only at h
      refine x_callV F (As := [.int (v1 + 4), .int x34]) (rest := []) (res := (some (.int x37))) (ci := 11) (q := (RX11, TX11, 45)) rfl (by decide) k37 (k_X11_keeps l b D cy N v0 (v1 + 4) x34 M34 _ _ c37) wl_1198 wl_1199 wl_1200 wl_854 wl_1193 hd_X11_keeps ⟨Nat.le_of_ble_eq_true rfl, Nat.le_of_ble_eq_true rfl⟩ ⟨Nat.le_refl _, Nat.le_refl _⟩ (Nat.le_of_ble_eq_true rfl) rfl dX11_readWrites_37 ?_
      refine x_if_eq F (tgt := 47) dX11_readWrites_40 (by decide) (fun c40 => ?_) (fun c40 => ?_)
      · rw [if_pos c40] at h
        refine x_iconst F (v := 0) dX11_readWrites_47 (by decide) ?_
        obtain ⟨rfl, rfl⟩ := retS h
        exact x_zret F hr hl (by decide) dX11_readWrites_48
      · rw [if_neg c40] at h
        refine x_iconst F (v := 1) dX11_readWrites_43 (by decide) ?_
        refine x_goto F (tgt := 48) dX11_readWrites_44 (by decide) ?_
        obtain ⟨rfl, rfl⟩ := retS h
        exact x_zret F hr hl (by decide) dX11_readWrites_48
  · rw [if_pos c5] at h
    refine x_aload_n F dX11_readWrites_8 rfl 0 rfl ?_
    refine x_iconst F (v := 1) dX11_readWrites_9 (by decide) ?_
    obtain ⟨k10, h⟩ := gdS h
    obtain ⟨⟨x10, M10⟩, c10, h⟩ := bdS h
    dsimp only at h
    refine x_callV F (As := [.int 1]) (rest := []) (res := (some (.int x10))) (ci := 11) (q := (RX11, TX11, 45)) rfl (by decide) k10 (k_X11_bad l b D cy N v0 1 M2 _ _ c10) wl_895 wl_896 wl_897 wl_854 wl_891 hd_X11_bad ⟨Nat.le_of_ble_eq_true rfl, Nat.le_of_ble_eq_true rfl⟩ ⟨Nat.le_refl _, Nat.le_refl _⟩ (Nat.le_of_ble_eq_true rfl) rfl dX11_readWrites_10 ?_
    obtain ⟨c13, h⟩ := gdS h
    obtain ⟨rfl, rfl⟩ := retS h
    exact x_zret F hr hl c13 dX11_readWrites_13
