theorem dX8_hasLaw_0 : decode cX8_hasLaw 0 = .ok (.iload_n 1, 1) := by decide +kernel
theorem dX8_hasLaw_1 : decode cX8_hasLaw 1 = .ok (.ifCond .lt 15, 3) := by decide +kernel
theorem dX8_hasLaw_4 : decode cX8_hasLaw 4 = .ok (.iload_n 1, 1) := by decide +kernel
theorem dX8_hasLaw_5 : decode cX8_hasLaw 5 = .ok (.aload_n 0, 1) := by decide +kernel
theorem dX8_hasLaw_6 : decode cX8_hasLaw 6 = .ok (.getfield 41, 3) := by decide +kernel
theorem dX8_hasLaw_9 : decode cX8_hasLaw 9 = .ok (.if_icmp .ge 7, 3) := by decide +kernel
theorem dX8_hasLaw_12 : decode cX8_hasLaw 12 = .ok (.iconst 1, 1) := by decide +kernel
theorem dX8_hasLaw_13 : decode cX8_hasLaw 13 = .ok (.goto 4, 3) := by decide +kernel
theorem dX8_hasLaw_16 : decode cX8_hasLaw 16 = .ok (.iconst 0, 1) := by decide +kernel
theorem dX8_hasLaw_17 : decode cX8_hasLaw 17 = .ok (.ireturn, 1) := by decide +kernel
def fX8_hasLaw (N : Nat) (v0 : Nat) (v1 : Int32) (M : Mem) : Option (Int32 × Mem) := (if v1 < 0 then some (0, M) else ((fI M 8 v0 9).bind fun x6 => (if x6 ≤ v1 then some (0, M) else some (1, M))))
set_option maxHeartbeats 4000000 in
set_option maxRecDepth 100000 in
theorem k_X8_hasLaw (l : Launch) (b : Nat) (D : va_G) (cy : Nat → ClassId) (N : Nat) (v0 : Nat) (v1 : Int32) (M : Mem) (r : Int32) (Mf : Mem) (h : fX8_hasLaw N v0 v1 M = some (r, Mf)) : Ct l yX8_hasLaw cX8_hasLaw 2 (some .boolean) 1 0 0 b D cy [.ref (b + v0), .int v1] M (some (.int r)) Mf := by
  refine Ct_of (own := RX8) (by decide) rfl (Nat.le_of_ble_eq_true rfl) ?_
  intro p e s m args below meth c F hr hl hmn
  unfold fX8_hasLaw at h
  show X p l e ({ frames := 1, cells := 0, slots := 0, locals := 100 * 1 }) s m args below meth c (MQ below (Qm b D cy (some (.int r)) Mf) args s 0 0 (fun q => b ≤ q)) 2 b D cy 0 0 M 0 [(0, .ref (b + v0)), (1, .int v1)] []
  refine x_iload_n F dX8_hasLaw_0 rfl 1 rfl ?_
  refine x_if_lt F (tgt := 16) dX8_hasLaw_1 (by decide) (fun c1 => ?_) (fun c1 => ?_)
  · rw [if_pos c1] at h
    refine x_iconst F (v := 0) dX8_hasLaw_16 (by decide) ?_
    obtain ⟨rfl, rfl⟩ := retS h
    exact x_zret F hr hl (by decide) dX8_hasLaw_17
  · rw [if_neg c1] at h
    refine x_iload_n F dX8_hasLaw_4 rfl 1 rfl ?_
    refine x_aload_n F dX8_hasLaw_5 rfl 0 rfl ?_
    obtain ⟨x6, c6, h⟩ := bdS h
    refine x_getI F (ci := 8) (C := RX8) (T := TX8) (N := 17) rfl ⟨by decide, rfl⟩ inU8 9 (by decide) (fun _ _ _ => rfl) wl_110 c6 dX8_hasLaw_6 ?_
    refine x_icmp_ge F (tgt := 16) dX8_hasLaw_9 (by decide) (fun c9 => ?_) (fun c9 => ?_)
    · rw [if_pos c9] at h
      refine x_iconst F (v := 0) dX8_hasLaw_16 (by decide) ?_
      obtain ⟨rfl, rfl⟩ := retS h
      exact x_zret F hr hl (by decide) dX8_hasLaw_17
    · rw [if_neg c9] at h
      refine x_iconst F (v := 1) dX8_hasLaw_12 (by decide) ?_
      refine x_goto F (tgt := 17) dX8_hasLaw_13 (by decide) ?_
      obtain ⟨rfl, rfl⟩ := retS h
      exact x_zret F hr hl (by decide) dX8_hasLaw_17
theorem hd_X8_hasLaw : (yX8_hasLaw).cls = RX8 ∧ (yX8_hasLaw).cls ≠ "java/lang/invoke/MethodHandle" ∧ (yX8_hasLaw).cls ≠ "java/lang/invoke/VarHandle" ∧ (parseMethodDescriptor (yX8_hasLaw).desc).map (fun d => d.parameters.length) = some 1 := by decide +kernel
theorem hd_X0_hasSignBy : (yX0_hasSignBy).cls = RX0 ∧ (yX0_hasSignBy).cls ≠ "java/lang/invoke/MethodHandle" ∧ (yX0_hasSignBy).cls ≠ "java/lang/invoke/VarHandle" ∧ (parseMethodDescriptor (yX0_hasSignBy).desc).map (fun d => d.parameters.length) = some 2 := by decide +kernel
theorem hd_X7_compares : (yX7_compares).cls = RX7 ∧ (yX7_compares).cls ≠ "java/lang/invoke/MethodHandle" ∧ (yX7_compares).cls ≠ "java/lang/invoke/VarHandle" ∧ (parseMethodDescriptor (yX7_compares).desc).map (fun d => d.parameters.length) = some 3 := by decide +kernel
theorem dX7_isSo_0 : decode cX7_isSo 0 = .ok (.iload_n 3, 1) := by decide +kernel
theorem dX7_isSo_1 : decode cX7_isSo 1 = .ok (.tableswitch 209 11 19 #[51, 66, 90, 119, 147, 155, 172, 186, 200], 51) := by decide +kernel
theorem dX7_isSo_52 : decode cX7_isSo 52 = .ok (.aload_n 1, 1) := by decide +kernel
theorem dX7_isSo_53 : decode cX7_isSo 53 = .ok (.getfield 127, 3) := by decide +kernel
theorem dX7_isSo_56 : decode cX7_isSo 56 = .ok (.iload_n 2, 1) := by decide +kernel
theorem dX7_isSo_57 : decode cX7_isSo 57 = .ok (.iaload, 1) := by decide +kernel
theorem dX7_isSo_58 : decode cX7_isSo 58 = .ok (.ifCond .ne 7, 3) := by decide +kernel
theorem dX7_isSo_61 : decode cX7_isSo 61 = .ok (.iconst 1, 1) := by decide +kernel
theorem dX7_isSo_62 : decode cX7_isSo 62 = .ok (.goto 4, 3) := by decide +kernel
theorem dX7_isSo_65 : decode cX7_isSo 65 = .ok (.iconst 0, 1) := by decide +kernel
theorem dX7_isSo_66 : decode cX7_isSo 66 = .ok (.ireturn, 1) := by decide +kernel
theorem dX7_isSo_67 : decode cX7_isSo 67 = .ok (.aload_n 1, 1) := by decide +kernel
theorem dX7_isSo_68 : decode cX7_isSo 68 = .ok (.getfield 127, 3) := by decide +kernel
theorem dX7_isSo_71 : decode cX7_isSo 71 = .ok (.iload_n 2, 1) := by decide +kernel
theorem dX7_isSo_72 : decode cX7_isSo 72 = .ok (.iaload, 1) := by decide +kernel
theorem dX7_isSo_73 : decode cX7_isSo 73 = .ok (.aload_n 0, 1) := by decide +kernel
theorem dX7_isSo_74 : decode cX7_isSo 74 = .ok (.getfield 31, 3) := by decide +kernel
theorem dX7_isSo_77 : decode cX7_isSo 77 = .ok (.getfield 132, 3) := by decide +kernel
theorem dX7_isSo_80 : decode cX7_isSo 80 = .ok (.iload_n 2, 1) := by decide +kernel
theorem dX7_isSo_81 : decode cX7_isSo 81 = .ok (.iaload, 1) := by decide +kernel
theorem dX7_isSo_82 : decode cX7_isSo 82 = .ok (.if_icmp .ne 7, 3) := by decide +kernel
theorem dX7_isSo_85 : decode cX7_isSo 85 = .ok (.iconst 1, 1) := by decide +kernel
theorem dX7_isSo_86 : decode cX7_isSo 86 = .ok (.goto 4, 3) := by decide +kernel
theorem dX7_isSo_89 : decode cX7_isSo 89 = .ok (.iconst 0, 1) := by decide +kernel
theorem dX7_isSo_90 : decode cX7_isSo 90 = .ok (.ireturn, 1) := by decide +kernel
theorem dX7_isSo_91 : decode cX7_isSo 91 = .ok (.aload_n 0, 1) := by decide +kernel
theorem dX7_isSo_92 : decode cX7_isSo 92 = .ok (.getfield 31, 3) := by decide +kernel
theorem dX7_isSo_95 : decode cX7_isSo 95 = .ok (.aload_n 1, 1) := by decide +kernel
theorem dX7_isSo_96 : decode cX7_isSo 96 = .ok (.getfield 135, 3) := by decide +kernel
theorem dX7_isSo_99 : decode cX7_isSo 99 = .ok (.invokevirtual 138, 3) := by decide +kernel
theorem dX7_isSo_102 : decode cX7_isSo 102 = .ok (.aload_n 0, 1) := by decide +kernel
theorem dX7_isSo_103 : decode cX7_isSo 103 = .ok (.getfield 31, 3) := by decide +kernel
theorem dX7_isSo_106 : decode cX7_isSo 106 = .ok (.getfield 142, 3) := by decide +kernel
theorem dX7_isSo_109 : decode cX7_isSo 109 = .ok (.iload_n 2, 1) := by decide +kernel
theorem dX7_isSo_110 : decode cX7_isSo 110 = .ok (.iaload, 1) := by decide +kernel
theorem dX7_isSo_111 : decode cX7_isSo 111 = .ok (.if_icmp .lt 7, 3) := by decide +kernel
theorem dX7_isSo_114 : decode cX7_isSo 114 = .ok (.iconst 1, 1) := by decide +kernel
theorem dX7_isSo_115 : decode cX7_isSo 115 = .ok (.goto 4, 3) := by decide +kernel
theorem dX7_isSo_118 : decode cX7_isSo 118 = .ok (.iconst 0, 1) := by decide +kernel
theorem dX7_isSo_119 : decode cX7_isSo 119 = .ok (.ireturn, 1) := by decide +kernel
theorem dX7_isSo_120 : decode cX7_isSo 120 = .ok (.aload_n 0, 1) := by decide +kernel
theorem dX7_isSo_121 : decode cX7_isSo 121 = .ok (.getfield 31, 3) := by decide +kernel
theorem dX7_isSo_124 : decode cX7_isSo 124 = .ok (.iload 4, 2) := by decide +kernel
theorem dX7_isSo_126 : decode cX7_isSo 126 = .ok (.invokevirtual 145, 3) := by decide +kernel
theorem dX7_isSo_129 : decode cX7_isSo 129 = .ok (.ifCond .eq 17, 3) := by decide +kernel
theorem dX7_isSo_132 : decode cX7_isSo 132 = .ok (.aload_n 1, 1) := by decide +kernel
theorem dX7_isSo_133 : decode cX7_isSo 133 = .ok (.iload 4, 2) := by decide +kernel
theorem dX7_isSo_135 : decode cX7_isSo 135 = .ok (.iload_n 2, 1) := by decide +kernel
theorem dX7_isSo_136 : decode cX7_isSo 136 = .ok (.invokevirtual 148, 3) := by decide +kernel
theorem dX7_isSo_139 : decode cX7_isSo 139 = .ok (.ifCond .eq 7, 3) := by decide +kernel
theorem dX7_isSo_142 : decode cX7_isSo 142 = .ok (.iconst 1, 1) := by decide +kernel
theorem dX7_isSo_143 : decode cX7_isSo 143 = .ok (.goto 4, 3) := by decide +kernel
theorem dX7_isSo_146 : decode cX7_isSo 146 = .ok (.iconst 0, 1) := by decide +kernel
theorem dX7_isSo_147 : decode cX7_isSo 147 = .ok (.ireturn, 1) := by decide +kernel
theorem dX7_isSo_148 : decode cX7_isSo 148 = .ok (.aload_n 1, 1) := by decide +kernel
theorem dX7_isSo_149 : decode cX7_isSo 149 = .ok (.iload 4, 2) := by decide +kernel
theorem dX7_isSo_151 : decode cX7_isSo 151 = .ok (.iload_n 2, 1) := by decide +kernel
theorem dX7_isSo_152 : decode cX7_isSo 152 = .ok (.invokevirtual 152, 3) := by decide +kernel
theorem dX7_isSo_155 : decode cX7_isSo 155 = .ok (.ireturn, 1) := by decide +kernel
theorem dX7_isSo_156 : decode cX7_isSo 156 = .ok (.aload_n 0, 1) := by decide +kernel
theorem dX7_isSo_157 : decode cX7_isSo 157 = .ok (.getfield 31, 3) := by decide +kernel
theorem dX7_isSo_160 : decode cX7_isSo 160 = .ok (.getfield 142, 3) := by decide +kernel
theorem dX7_isSo_163 : decode cX7_isSo 163 = .ok (.iload_n 2, 1) := by decide +kernel
theorem dX7_isSo_164 : decode cX7_isSo 164 = .ok (.iaload, 1) := by decide +kernel
theorem dX7_isSo_165 : decode cX7_isSo 165 = .ok (.iload 4, 2) := by decide +kernel
theorem dX7_isSo_167 : decode cX7_isSo 167 = .ok (.iload 5, 2) := by decide +kernel
theorem dX7_isSo_169 : decode cX7_isSo 169 = .ok (.invokestatic 155, 3) := by decide +kernel
theorem dX7_isSo_172 : decode cX7_isSo 172 = .ok (.ireturn, 1) := by decide +kernel
theorem dX7_isSo_173 : decode cX7_isSo 173 = .ok (.aload_n 1, 1) := by decide +kernel
theorem dX7_isSo_174 : decode cX7_isSo 174 = .ok (.getfield 127, 3) := by decide +kernel
theorem dX7_isSo_177 : decode cX7_isSo 177 = .ok (.iload_n 2, 1) := by decide +kernel
theorem dX7_isSo_178 : decode cX7_isSo 178 = .ok (.iaload, 1) := by decide +kernel
theorem dX7_isSo_179 : decode cX7_isSo 179 = .ok (.iload 4, 2) := by decide +kernel
theorem dX7_isSo_181 : decode cX7_isSo 181 = .ok (.iload 5, 2) := by decide +kernel
theorem dX7_isSo_183 : decode cX7_isSo 183 = .ok (.invokestatic 155, 3) := by decide +kernel
theorem dX7_isSo_186 : decode cX7_isSo 186 = .ok (.ireturn, 1) := by decide +kernel
theorem dX7_isSo_187 : decode cX7_isSo 187 = .ok (.aload_n 1, 1) := by decide +kernel
theorem dX7_isSo_188 : decode cX7_isSo 188 = .ok (.getfield 159, 3) := by decide +kernel
theorem dX7_isSo_191 : decode cX7_isSo 191 = .ok (.iload_n 2, 1) := by decide +kernel
theorem dX7_isSo_192 : decode cX7_isSo 192 = .ok (.iaload, 1) := by decide +kernel
theorem dX7_isSo_193 : decode cX7_isSo 193 = .ok (.iload 4, 2) := by decide +kernel
theorem dX7_isSo_195 : decode cX7_isSo 195 = .ok (.iload 5, 2) := by decide +kernel
theorem dX7_isSo_197 : decode cX7_isSo 197 = .ok (.invokestatic 155, 3) := by decide +kernel
theorem dX7_isSo_200 : decode cX7_isSo 200 = .ok (.ireturn, 1) := by decide +kernel
theorem dX7_isSo_201 : decode cX7_isSo 201 = .ok (.iload_n 2, 1) := by decide +kernel
theorem dX7_isSo_202 : decode cX7_isSo 202 = .ok (.iload 4, 2) := by decide +kernel
theorem dX7_isSo_204 : decode cX7_isSo 204 = .ok (.iload 5, 2) := by decide +kernel
theorem dX7_isSo_206 : decode cX7_isSo 206 = .ok (.invokestatic 155, 3) := by decide +kernel
theorem dX7_isSo_209 : decode cX7_isSo 209 = .ok (.ireturn, 1) := by decide +kernel
theorem dX7_isSo_210 : decode cX7_isSo 210 = .ok (.iconst 0, 1) := by decide +kernel
theorem dX7_isSo_211 : decode cX7_isSo 211 = .ok (.ireturn, 1) := by decide +kernel
def fX7_isSo (N : Nat) (v0 : Nat) (v1 : Nat) (v2 : Int32) (v3 : Int32) (v4 : Int32) (v5 : Int32) (M : Mem) : Option (Int32 × Mem) := (if v3 = 11 then ((fR M 0 v1 3).bind fun x53 => ((aI M x53 v2).bind fun x57 => (if x57 = 0 then some (1, M) else some (0, M)))) else (if v3 = 12 then ((fR M 0 v1 3).bind fun x68 => ((aI M x68 v2).bind fun x72 => ((fR M 7 v0 0).bind fun x74 => ((fR M 8 x74 3).bind fun x77 => ((aI M x77 v2).bind fun x81 => (if x72 = x81 then some (1, M) else some (0, M))))))) else (if v3 = 13 then ((fR M 7 v0 0).bind fun x92 => ((fI M 0 v1 9).bind fun x96 => (if mK M x92 = 9 then ((fX8_tideOf N x92 x96 M).bind fun (x99, M99) => ((fR M99 7 v0 0).bind fun x103 => ((fR M99 8 x103 2).bind fun x106 => ((aI M99 x106 v2).bind fun x110 => (if x99 < x110 then some (0, M99) else some (1, M99)))))) else none))) else (if v3 = 14 then ((fR M 7 v0 0).bind fun x121 => (if mK M x121 = 9 then ((fX8_hasLaw N x121 v4 M).bind fun (x126, M126) => (if x126 = 0 then some (0, M126) else (if mK M126 v1 = 1 then ((fX0_canBeRead N v1 v4 v2 M126).bind fun (x136, M136) => (if x136 = 0 then some (0, M136) else some (1, M136))) else none))) else none)) else (if v3 = 15 then (if mK M v1 = 1 then ((fX0_hasSignBy N v1 v4 v2 M).bind fun (x152, M152) => (if vp_nar .boolean x152 = x152 then some (x152, M152) else none)) else none) else (if v3 = 16 then ((fR M 7 v0 0).bind fun x157 => ((fR M 8 x157 2).bind fun x160 => ((aI M x160 v2).bind fun x164 => ((fX7_compares N x164 v4 v5 M).bind fun (x169, M169) => (if vp_nar .boolean x169 = x169 then some (x169, M169) else none))))) else (if v3 = 17 then ((fR M 0 v1 3).bind fun x174 => ((aI M x174 v2).bind fun x178 => ((fX7_compares N x178 v4 v5 M).bind fun (x183, M183) => (if vp_nar .boolean x183 = x183 then some (x183, M183) else none)))) else (if v3 = 18 then ((fR M 0 v1 4).bind fun x188 => ((aI M x188 v2).bind fun x192 => ((fX7_compares N x192 v4 v5 M).bind fun (x197, M197) => (if vp_nar .boolean x197 = x197 then some (x197, M197) else none)))) else (if v3 = 19 then ((fX7_compares N v2 v4 v5 M).bind fun (x206, M206) => (if vp_nar .boolean x206 = x206 then some (x206, M206) else none)) else some (0, M))))))))))
set_option maxHeartbeats 4000000 in
set_option maxRecDepth 100000 in
theorem k_X7_isSo (l : Launch) (b : Nat) (D : va_G) (cy : Nat → ClassId) (N : Nat) (v0 : Nat) (v1 : Nat) (v2 : Int32) (v3 : Int32) (v4 : Int32) (v5 : Int32) (M : Mem) (r : Int32) (Mf : Mem) (h : fX7_isSo N v0 v1 v2 v3 v4 v5 M = some (r, Mf)) : Ct l yX7_isSo cX7_isSo 6 (some .boolean) 3 0 0 b D cy [.ref (b + v0), .ref (b + v1), .int v2, .int v3, .int v4, .int v5] M (some (.int r)) Mf := by
  refine Ct_of (own := RX7) (by decide) rfl (Nat.le_of_ble_eq_true rfl) ?_
  intro p e s m args below meth c F hr hl hmn
  unfold fX7_isSo at h
  show X p l e ({ frames := 3, cells := 0, slots := 0, locals := 100 * 3 }) s m args below meth c (MQ below (Qm b D cy (some (.int r)) Mf) args s 0 0 (fun q => b ≤ q)) 6 b D cy 0 0 M 0 [(0, .ref (b + v0)), (1, .ref (b + v1)), (2, .int v2), (3, .int v3), (4, .int v4), (5, .int v5)] []
  refine x_iload_n F dX7_isSo_0 rfl 3 rfl ?_
  by_cases c1_11 : v3 = 11
  · rw [if_pos c1_11] at h
    refine x_tableIn F (off := 51) (tgt := 52) dX7_isSo_1 (by rw [c1_11]; decide) (by rw [c1_11]; decide) (by rw [c1_11]; decide) (by decide) ?_
    refine x_aload_n F dX7_isSo_52 rfl 1 rfl ?_
    obtain ⟨x53, c53, h⟩ := bdS h
    refine x_getR F (ci := 0) (C := RX0) (T := TX0) (N := 12) rfl ⟨by decide, rfl⟩ inU0 3 (by decide) (fun _ _ _ => rfl) wl_458 c53 dX7_isSo_53 ?_
    refine x_iload_n F dX7_isSo_56 rfl 2 rfl ?_
    obtain ⟨x57, c57, h⟩ := bdS h
    refine x_aI F c57 dX7_isSo_57 ?_
    refine x_if_ne F (tgt := 65) dX7_isSo_58 (by decide) (fun c58 => ?_) (fun c58 => ?_)
    · rw [if_neg c58] at h
      refine x_iconst F (v := 0) dX7_isSo_65 (by decide) ?_
      obtain ⟨rfl, rfl⟩ := retS h
      exact x_zret F hr hl (by decide) dX7_isSo_66
    · rw [if_pos c58] at h
      refine x_iconst F (v := 1) dX7_isSo_61 (by decide) ?_
      refine x_goto F (tgt := 66) dX7_isSo_62 (by decide) ?_
      obtain ⟨rfl, rfl⟩ := retS h
      exact x_zret F hr hl (by decide) dX7_isSo_66
  rw [if_neg c1_11] at h
  by_cases c1_12 : v3 = 12
  · rw [if_pos c1_12] at h
    refine x_tableIn F (off := 66) (tgt := 67) dX7_isSo_1 (by rw [c1_12]; decide) (by rw [c1_12]; decide) (by rw [c1_12]; decide) (by decide) ?_
    refine x_aload_n F dX7_isSo_67 rfl 1 rfl ?_
    obtain ⟨x68, c68, h⟩ := bdS h
    refine x_getR F (ci := 0) (C := RX0) (T := TX0) (N := 12) rfl ⟨by decide, rfl⟩ inU0 3 (by decide) (fun _ _ _ => rfl) wl_458 c68 dX7_isSo_68 ?_
    refine x_iload_n F dX7_isSo_71 rfl 2 rfl ?_
    obtain ⟨x72, c72, h⟩ := bdS h
    refine x_aI F c72 dX7_isSo_72 ?_
    refine x_aload_n F dX7_isSo_73 rfl 0 rfl ?_
    obtain ⟨x74, c74, h⟩ := bdS h
    refine x_getR F (ci := 7) (C := RX7) (T := TX7) (N := 7) rfl ⟨by decide, rfl⟩ inU7 0 (by decide) (fun _ _ _ => rfl) wl_413 c74 dX7_isSo_74 ?_
    obtain ⟨x77, c77, h⟩ := bdS h
    refine x_getR F (ci := 8) (C := RX8) (T := TX8) (N := 17) rfl ⟨by decide, rfl⟩ inU8 3 (by decide) (fun _ _ _ => rfl) wl_459 c77 dX7_isSo_77 ?_
    refine x_iload_n F dX7_isSo_80 rfl 2 rfl ?_
    obtain ⟨x81, c81, h⟩ := bdS h
    refine x_aI F c81 dX7_isSo_81 ?_
    refine x_icmp_ne F (tgt := 89) dX7_isSo_82 (by decide) (fun c82 => ?_) (fun c82 => ?_)
    · rw [if_neg c82] at h
      refine x_iconst F (v := 0) dX7_isSo_89 (by decide) ?_
      obtain ⟨rfl, rfl⟩ := retS h
      exact x_zret F hr hl (by decide) dX7_isSo_90
    · rw [if_pos c82] at h
      refine x_iconst F (v := 1) dX7_isSo_85 (by decide) ?_
      refine x_goto F (tgt := 90) dX7_isSo_86 (by decide) ?_
      obtain ⟨rfl, rfl⟩ := retS h
      exact x_zret F hr hl (by decide) dX7_isSo_90
  rw [if_neg c1_12] at h
  by_cases c1_13 : v3 = 13
  · rw [if_pos c1_13] at h
    refine x_tableIn F (off := 90) (tgt := 91) dX7_isSo_1 (by rw [c1_13]; decide) (by rw [c1_13]; decide) (by rw [c1_13]; decide) (by decide) ?_
    refine x_aload_n F dX7_isSo_91 rfl 0 rfl ?_
    obtain ⟨x92, c92, h⟩ := bdS h
    refine x_getR F (ci := 7) (C := RX7) (T := TX7) (N := 7) rfl ⟨by decide, rfl⟩ inU7 0 (by decide) (fun _ _ _ => rfl) wl_413 c92 dX7_isSo_92 ?_
    refine x_aload_n F dX7_isSo_95 rfl 1 rfl ?_
    obtain ⟨x96, c96, h⟩ := bdS h
    refine x_getI F (ci := 0) (C := RX0) (T := TX0) (N := 12) rfl ⟨by decide, rfl⟩ inU0 9 (by decide) (fun _ _ _ => rfl) wl_460 c96 dX7_isSo_96 ?_
    obtain ⟨k99, h⟩ := gdS h
    obtain ⟨⟨x99, M99⟩, c99, h⟩ := bdS h
    dsimp only at h
    refine x_callV F (As := [.int x96]) (rest := []) (res := (some (.int x99))) (ci := 8) (q := (RX8, TX8, 17)) rfl (by decide) k99 (k_X8_tideOf l b D cy N x92 x96 M _ _ c99) wl_463 wl_73 wl_74 wl_75 wl_36 hd_X8_tideOf ⟨Nat.le_of_ble_eq_true rfl, Nat.le_of_ble_eq_true rfl⟩ ⟨Nat.le_refl _, Nat.le_refl _⟩ (Nat.le_of_ble_eq_true rfl) rfl dX7_isSo_99 ?_
    refine x_aload_n F dX7_isSo_102 rfl 0 rfl ?_
    obtain ⟨x103, c103, h⟩ := bdS h
    refine x_getR F (ci := 7) (C := RX7) (T := TX7) (N := 7) rfl ⟨by decide, rfl⟩ inU7 0 (by decide) (fun _ _ _ => rfl) wl_413 c103 dX7_isSo_103 ?_
    obtain ⟨x106, c106, h⟩ := bdS h
    refine x_getR F (ci := 8) (C := RX8) (T := TX8) (N := 17) rfl ⟨by decide, rfl⟩ inU8 2 (by decide) (fun _ _ _ => rfl) wl_461 c106 dX7_isSo_106 ?_
    refine x_iload_n F dX7_isSo_109 rfl 2 rfl ?_
    obtain ⟨x110, c110, h⟩ := bdS h
    refine x_aI F c110 dX7_isSo_110 ?_
    refine x_icmp_lt F (tgt := 118) dX7_isSo_111 (by decide) (fun c111 => ?_) (fun c111 => ?_)
    · rw [if_pos c111] at h
      refine x_iconst F (v := 0) dX7_isSo_118 (by decide) ?_
      obtain ⟨rfl, rfl⟩ := retS h
      exact x_zret F hr hl (by decide) dX7_isSo_119
    · rw [if_neg c111] at h
      refine x_iconst F (v := 1) dX7_isSo_114 (by decide) ?_
      refine x_goto F (tgt := 119) dX7_isSo_115 (by decide) ?_
      obtain ⟨rfl, rfl⟩ := retS h
      exact x_zret F hr hl (by decide) dX7_isSo_119
  rw [if_neg c1_13] at h
  by_cases c1_14 : v3 = 14
  · rw [if_pos c1_14] at h
    refine x_tableIn F (off := 119) (tgt := 120) dX7_isSo_1 (by rw [c1_14]; decide) (by rw [c1_14]; decide) (by rw [c1_14]; decide) (by decide) ?_
    refine x_aload_n F dX7_isSo_120 rfl 0 rfl ?_
    obtain ⟨x121, c121, h⟩ := bdS h
    refine x_getR F (ci := 7) (C := RX7) (T := TX7) (N := 7) rfl ⟨by decide, rfl⟩ inU7 0 (by decide) (fun _ _ _ => rfl) wl_413 c121 dX7_isSo_121 ?_
    refine x_iload F dX7_isSo_124 4 rfl ?_
    obtain ⟨k126, h⟩ := gdS h
    obtain ⟨⟨x126, M126⟩, c126, h⟩ := bdS h
    dsimp only at h
    refine x_callV F (As := [.int v4]) (rest := []) (res := (some (.int x126))) (ci := 8) (q := (RX8, TX8, 17)) rfl (by decide) k126 (k_X8_hasLaw l b D cy N x121 v4 M _ _ c126) wl_464 wl_465 wl_466 wl_75 wl_456 hd_X8_hasLaw ⟨Nat.le_of_ble_eq_true rfl, Nat.le_of_ble_eq_true rfl⟩ ⟨Nat.le_refl _, Nat.le_refl _⟩ (Nat.le_of_ble_eq_true rfl) rfl dX7_isSo_126 ?_
    refine x_if_eq F (tgt := 146) dX7_isSo_129 (by decide) (fun c129 => ?_) (fun c129 => ?_)
    · rw [if_pos c129] at h
      refine x_iconst F (v := 0) dX7_isSo_146 (by decide) ?_
      obtain ⟨rfl, rfl⟩ := retS h
      exact x_zret F hr hl (by decide) dX7_isSo_147
    · rw [if_neg c129] at h
      refine x_aload_n F dX7_isSo_132 rfl 1 rfl ?_
      refine x_iload F dX7_isSo_133 4 rfl ?_
      refine x_iload_n F dX7_isSo_135 rfl 2 rfl ?_
      obtain ⟨k136, h⟩ := gdS h
      obtain ⟨⟨x136, M136⟩, c136, h⟩ := bdS h
      dsimp only at h
      refine x_callV F (As := [.int v4, .int v2]) (rest := []) (res := (some (.int x136))) (ci := 0) (q := (RX0, TX0, 12)) rfl (by decide) k136 (k_X0_canBeRead l b D cy N v1 v4 v2 M126 _ _ c136) wl_467 wl_64 wl_65 wl_52 wl_57 hd_X0_canBeRead ⟨Nat.le_of_ble_eq_true rfl, Nat.le_of_ble_eq_true rfl⟩ ⟨Nat.le_refl _, Nat.le_refl _⟩ (Nat.le_of_ble_eq_true rfl) rfl dX7_isSo_136 ?_
      refine x_if_eq F (tgt := 146) dX7_isSo_139 (by decide) (fun c139 => ?_) (fun c139 => ?_)
      · rw [if_pos c139] at h
        refine x_iconst F (v := 0) dX7_isSo_146 (by decide) ?_
        obtain ⟨rfl, rfl⟩ := retS h
        exact x_zret F hr hl (by decide) dX7_isSo_147
      · rw [if_neg c139] at h
        refine x_iconst F (v := 1) dX7_isSo_142 (by decide) ?_
        refine x_goto F (tgt := 147) dX7_isSo_143 (by decide) ?_
        obtain ⟨rfl, rfl⟩ := retS h
        exact x_zret F hr hl (by decide) dX7_isSo_147
  rw [if_neg c1_14] at h
  by_cases c1_15 : v3 = 15
  · rw [if_pos c1_15] at h
    refine x_tableIn F (off := 147) (tgt := 148) dX7_isSo_1 (by rw [c1_15]; decide) (by rw [c1_15]; decide) (by rw [c1_15]; decide) (by decide) ?_
    refine x_aload_n F dX7_isSo_148 rfl 1 rfl ?_
    refine x_iload F dX7_isSo_149 4 rfl ?_
    refine x_iload_n F dX7_isSo_151 rfl 2 rfl ?_
    obtain ⟨k152, h⟩ := gdS h
    obtain ⟨⟨x152, M152⟩, c152, h⟩ := bdS h
    dsimp only at h
    refine x_callV F (As := [.int v4, .int v2]) (rest := []) (res := (some (.int x152))) (ci := 0) (q := (RX0, TX0, 12)) rfl (by decide) k152 (k_X0_hasSignBy l b D cy N v1 v4 v2 M _ _ c152) wl_468 wl_469 wl_470 wl_52 wl_92 hd_X0_hasSignBy ⟨Nat.le_of_ble_eq_true rfl, Nat.le_of_ble_eq_true rfl⟩ ⟨Nat.le_refl _, Nat.le_refl _⟩ (Nat.le_of_ble_eq_true rfl) rfl dX7_isSo_152 ?_
    obtain ⟨c155, h⟩ := gdS h
    obtain ⟨rfl, rfl⟩ := retS h
    exact x_zret F hr hl c155 dX7_isSo_155
  rw [if_neg c1_15] at h
  by_cases c1_16 : v3 = 16
  · rw [if_pos c1_16] at h
    refine x_tableIn F (off := 155) (tgt := 156) dX7_isSo_1 (by rw [c1_16]; decide) (by rw [c1_16]; decide) (by rw [c1_16]; decide) (by decide) ?_
    refine x_aload_n F dX7_isSo_156 rfl 0 rfl ?_
    obtain ⟨x157, c157, h⟩ := bdS h
    refine x_getR F (ci := 7) (C := RX7) (T := TX7) (N := 7) rfl ⟨by decide, rfl⟩ inU7 0 (by decide) (fun _ _ _ => rfl) wl_413 c157 dX7_isSo_157 ?_
    obtain ⟨x160, c160, h⟩ := bdS h
    refine x_getR F (ci := 8) (C := RX8) (T := TX8) (N := 17) rfl ⟨by decide, rfl⟩ inU8 2 (by decide) (fun _ _ _ => rfl) wl_461 c160 dX7_isSo_160 ?_
    refine x_iload_n F dX7_isSo_163 rfl 2 rfl ?_
    obtain ⟨x164, c164, h⟩ := bdS h
    refine x_aI F c164 dX7_isSo_164 ?_
    refine x_iload F dX7_isSo_165 4 rfl ?_
    refine x_iload F dX7_isSo_167 5 rfl ?_
    obtain ⟨⟨x169, M169⟩, c169, h⟩ := bdS h
    dsimp only at h
    refine x_callS F (As := [.int x164, .int v4, .int v5]) (rest := []) (res := (some (.int x169))) (k_X7_compares l b D cy N x164 v4 v5 M _ _ c169) wl_471 wl_472 wl_430 wl_457 (hd_X7_compares).2 ⟨Nat.le_of_ble_eq_true rfl, Nat.le_of_ble_eq_true rfl⟩ ⟨Nat.le_refl _, Nat.le_refl _⟩ (Nat.le_of_ble_eq_true rfl) rfl dX7_isSo_169 ?_
    obtain ⟨c172, h⟩ := gdS h
    obtain ⟨rfl, rfl⟩ := retS h
    exact x_zret F hr hl c172 dX7_isSo_172
  rw [if_neg c1_16] at h
  by_cases c1_17 : v3 = 17
  · rw [if_pos c1_17] at h
    refine x_tableIn F (off := 172) (tgt := 173) dX7_isSo_1 (by rw [c1_17]; decide) (by rw [c1_17]; decide) (by rw [c1_17]; decide) (by decide) ?_
    refine x_aload_n F dX7_isSo_173 rfl 1 rfl ?_
    obtain ⟨x174, c174, h⟩ := bdS h
    refine x_getR F (ci := 0) (C := RX0) (T := TX0) (N := 12) rfl ⟨by decide, rfl⟩ inU0 3 (by decide) (fun _ _ _ => rfl) wl_458 c174 dX7_isSo_174 ?_
    refine x_iload_n F dX7_isSo_177 rfl 2 rfl ?_
    obtain ⟨x178, c178, h⟩ := bdS h
    refine x_aI F c178 dX7_isSo_178 ?_
    refine x_iload F dX7_isSo_179 4 rfl ?_
    refine x_iload F dX7_isSo_181 5 rfl ?_
    obtain ⟨⟨x183, M183⟩, c183, h⟩ := bdS h
    dsimp only at h
    refine x_callS F (As := [.int x178, .int v4, .int v5]) (rest := []) (res := (some (.int x183))) (k_X7_compares l b D cy N x178 v4 v5 M _ _ c183) wl_471 wl_472 wl_430 wl_457 (hd_X7_compares).2 ⟨Nat.le_of_ble_eq_true rfl, Nat.le_of_ble_eq_true rfl⟩ ⟨Nat.le_refl _, Nat.le_refl _⟩ (Nat.le_of_ble_eq_true rfl) rfl dX7_isSo_183 ?_
    obtain ⟨c186, h⟩ := gdS h
    obtain ⟨rfl, rfl⟩ := retS h
    exact x_zret F hr hl c186 dX7_isSo_186
  rw [if_neg c1_17] at h
  by_cases c1_18 : v3 = 18
  · rw [if_pos c1_18] at h
    refine x_tableIn F (off := 186) (tgt := 187) dX7_isSo_1 (by rw [c1_18]; decide) (by rw [c1_18]; decide) (by rw [c1_18]; decide) (by decide) ?_
    refine x_aload_n F dX7_isSo_187 rfl 1 rfl ?_
    obtain ⟨x188, c188, h⟩ := bdS h
    refine x_getR F (ci := 0) (C := RX0) (T := TX0) (N := 12) rfl ⟨by decide, rfl⟩ inU0 4 (by decide) (fun _ _ _ => rfl) wl_462 c188 dX7_isSo_188 ?_
    refine x_iload_n F dX7_isSo_191 rfl 2 rfl ?_
    obtain ⟨x192, c192, h⟩ := bdS h
    refine x_aI F c192 dX7_isSo_192 ?_
    refine x_iload F dX7_isSo_193 4 rfl ?_
    refine x_iload F dX7_isSo_195 5 rfl ?_
    obtain ⟨⟨x197, M197⟩, c197, h⟩ := bdS h
    dsimp only at h
    refine x_callS F (As := [.int x192, .int v4, .int v5]) (rest := []) (res := (some (.int x197))) (k_X7_compares l b D cy N x192 v4 v5 M _ _ c197) wl_471 wl_472 wl_430 wl_457 (hd_X7_compares).2 ⟨Nat.le_of_ble_eq_true rfl, Nat.le_of_ble_eq_true rfl⟩ ⟨Nat.le_refl _, Nat.le_refl _⟩ (Nat.le_of_ble_eq_true rfl) rfl dX7_isSo_197 ?_
    obtain ⟨c200, h⟩ := gdS h
    obtain ⟨rfl, rfl⟩ := retS h
    exact x_zret F hr hl c200 dX7_isSo_200
  rw [if_neg c1_18] at h
  by_cases c1_19 : v3 = 19
  · rw [if_pos c1_19] at h
    refine x_tableIn F (off := 200) (tgt := 201) dX7_isSo_1 (by rw [c1_19]; decide) (by rw [c1_19]; decide) (by rw [c1_19]; decide) (by decide) ?_
    refine x_iload_n F dX7_isSo_201 rfl 2 rfl ?_
    refine x_iload F dX7_isSo_202 4 rfl ?_
    refine x_iload F dX7_isSo_204 5 rfl ?_
    obtain ⟨⟨x206, M206⟩, c206, h⟩ := bdS h
    dsimp only at h
    refine x_callS F (As := [.int v2, .int v4, .int v5]) (rest := []) (res := (some (.int x206))) (k_X7_compares l b D cy N v2 v4 v5 M _ _ c206) wl_471 wl_472 wl_430 wl_457 (hd_X7_compares).2 ⟨Nat.le_of_ble_eq_true rfl, Nat.le_of_ble_eq_true rfl⟩ ⟨Nat.le_refl _, Nat.le_refl _⟩ (Nat.le_of_ble_eq_true rfl) rfl dX7_isSo_206 ?_
    obtain ⟨c209, h⟩ := gdS h
    obtain ⟨rfl, rfl⟩ := retS h
    exact x_zret F hr hl c209 dX7_isSo_209
  rw [if_neg c1_19] at h
  refine x_tableOut F (tgt := 210) dX7_isSo_1 (by have q0 := sw_ne (t := 11) c1_11 (by decide); have q1 := sw_ne (t := 12) c1_12 (by decide); have q2 := sw_ne (t := 13) c1_13 (by decide); have q3 := sw_ne (t := 14) c1_14 (by decide); have q4 := sw_ne (t := 15) c1_15 (by decide); have q5 := sw_ne (t := 16) c1_16 (by decide); have q6 := sw_ne (t := 17) c1_17 (by decide); have q7 := sw_ne (t := 18) c1_18 (by decide); have q8 := sw_ne (t := 19) c1_19 (by decide); omega) (by decide) ?_
  refine x_iconst F (v := 0) dX7_isSo_210 (by decide) ?_
  obtain ⟨rfl, rfl⟩ := retS h
  exact x_zret F hr hl (by decide) dX7_isSo_211
theorem hd_X7_isSo : (yX7_isSo).cls = RX7 ∧ (yX7_isSo).cls ≠ "java/lang/invoke/MethodHandle" ∧ (yX7_isSo).cls ≠ "java/lang/invoke/VarHandle" ∧ (parseMethodDescriptor (yX7_isSo).desc).map (fun d => d.parameters.length) = some 5 := by decide +kernel
theorem dX7_bandsAt_0 : decode cX7_bandsAt 0 = .ok (.iconst 0, 1) := by decide +kernel
theorem dX7_bandsAt_1 : decode cX7_bandsAt 1 = .ok (.istore_n 3, 1) := by decide +kernel
theorem dX7_bandsAt_2 : decode cX7_bandsAt 2 = .ok (.iconst 0, 1) := by decide +kernel
theorem dX7_bandsAt_3 : decode cX7_bandsAt 3 = .ok (.istore 4, 2) := by decide +kernel
theorem dX7_bandsAt_5 : decode cX7_bandsAt 5 = .ok (.iload 4, 2) := by decide +kernel
theorem dX7_bandsAt_7 : decode cX7_bandsAt 7 = .ok (.aload_n 0, 1) := by decide +kernel
theorem dX7_bandsAt_8 : decode cX7_bandsAt 8 = .ok (.getfield 31, 3) := by decide +kernel
theorem dX7_bandsAt_11 : decode cX7_bandsAt 11 = .ok (.getfield 116, 3) := by decide +kernel
theorem dX7_bandsAt_14 : decode cX7_bandsAt 14 = .ok (.if_icmp .ge 44, 3) := by decide +kernel
theorem dX7_bandsAt_17 : decode cX7_bandsAt 17 = .ok (.aload_n 0, 1) := by decide +kernel
theorem dX7_bandsAt_18 : decode cX7_bandsAt 18 = .ok (.aload_n 1, 1) := by decide +kernel
theorem dX7_bandsAt_19 : decode cX7_bandsAt 19 = .ok (.iload 4, 2) := by decide +kernel
theorem dX7_bandsAt_21 : decode cX7_bandsAt 21 = .ok (.aload_n 0, 1) := by decide +kernel
theorem dX7_bandsAt_22 : decode cX7_bandsAt 22 = .ok (.getfield 11, 3) := by decide +kernel
theorem dX7_bandsAt_25 : decode cX7_bandsAt 25 = .ok (.iload_n 2, 1) := by decide +kernel
theorem dX7_bandsAt_26 : decode cX7_bandsAt 26 = .ok (.iaload, 1) := by decide +kernel
theorem dX7_bandsAt_27 : decode cX7_bandsAt 27 = .ok (.aload_n 0, 1) := by decide +kernel
theorem dX7_bandsAt_28 : decode cX7_bandsAt 28 = .ok (.getfield 15, 3) := by decide +kernel
theorem dX7_bandsAt_31 : decode cX7_bandsAt 31 = .ok (.iload_n 2, 1) := by decide +kernel
theorem dX7_bandsAt_32 : decode cX7_bandsAt 32 = .ok (.iaload, 1) := by decide +kernel
theorem dX7_bandsAt_33 : decode cX7_bandsAt 33 = .ok (.aload_n 0, 1) := by decide +kernel
theorem dX7_bandsAt_34 : decode cX7_bandsAt 34 = .ok (.getfield 18, 3) := by decide +kernel
theorem dX7_bandsAt_37 : decode cX7_bandsAt 37 = .ok (.iload_n 2, 1) := by decide +kernel
theorem dX7_bandsAt_38 : decode cX7_bandsAt 38 = .ok (.iaload, 1) := by decide +kernel
theorem dX7_bandsAt_39 : decode cX7_bandsAt 39 = .ok (.invokevirtual 123, 3) := by decide +kernel
theorem dX7_bandsAt_42 : decode cX7_bandsAt 42 = .ok (.ifCond .eq 10, 3) := by decide +kernel
theorem dX7_bandsAt_45 : decode cX7_bandsAt 45 = .ok (.iload_n 3, 1) := by decide +kernel
theorem dX7_bandsAt_46 : decode cX7_bandsAt 46 = .ok (.iconst 1, 1) := by decide +kernel
theorem dX7_bandsAt_47 : decode cX7_bandsAt 47 = .ok (.iload 4, 2) := by decide +kernel
theorem dX7_bandsAt_49 : decode cX7_bandsAt 49 = .ok (.ishl, 1) := by decide +kernel
theorem dX7_bandsAt_50 : decode cX7_bandsAt 50 = .ok (.ior, 1) := by decide +kernel
theorem dX7_bandsAt_51 : decode cX7_bandsAt 51 = .ok (.istore_n 3, 1) := by decide +kernel
theorem dX7_bandsAt_52 : decode cX7_bandsAt 52 = .ok (.iinc 4 1, 3) := by decide +kernel
theorem dX7_bandsAt_55 : decode cX7_bandsAt 55 = .ok (.goto (-50), 3) := by decide +kernel
theorem dX7_bandsAt_58 : decode cX7_bandsAt 58 = .ok (.iload_n 3, 1) := by decide +kernel
theorem dX7_bandsAt_59 : decode cX7_bandsAt 59 = .ok (.ireturn, 1) := by decide +kernel
def fX7_bandsAt_L5 (N : Nat) (v0 : Nat) (v1 : Nat) (v2 : Int32) : Nat → Int32 → Int32 → Mem → Option (Int32 × Mem)
  | 0, _, _, _ => none
  | n + 1, v3, v4, M => ((fR M 7 v0 0).bind fun x8 => ((fI M 8 x8 0).bind fun x11 => (if x11 ≤ v4 then some (v3, M) else ((fR M 7 v0 1).bind fun x22 => ((aI M x22 v2).bind fun x26 => ((fR M 7 v0 2).bind fun x28 => ((aI M x28 v2).bind fun x32 => ((fR M 7 v0 3).bind fun x34 => ((aI M x34 v2).bind fun x38 => (if mK M v0 = 8 then ((fX7_isSo N v0 v1 v4 x26 x32 x38 M).bind fun (x39, M39) => (if x39 = 0 then fX7_bandsAt_L5 N v0 v1 v2 n v3 (v4 + 1) M39 else fX7_bandsAt_L5 N v0 v1 v2 n (v3 ||| (1 <<< (v4 &&& 31))) (v4 + 1) M39)) else none))))))))))
def fX7_bandsAt (N : Nat) (v0 : Nat) (v1 : Nat) (v2 : Int32) (M : Mem) : Option (Int32 × Mem) := ((fX7_bandsAt_L5 N v0 v1 v2 N 0 0 M).bind fun o5 => some o5)
set_option maxHeartbeats 4000000 in
set_option maxRecDepth 100000 in
theorem k_X7_bandsAt (l : Launch) (b : Nat) (D : va_G) (cy : Nat → ClassId) (N : Nat) (v0 : Nat) (v1 : Nat) (v2 : Int32) (M : Mem) (r : Int32) (Mf : Mem) (h : fX7_bandsAt N v0 v1 v2 M = some (r, Mf)) : Ct l yX7_bandsAt cX7_bandsAt 5 (some .int) 4 0 0 b D cy [.ref (b + v0), .ref (b + v1), .int v2] M (some (.int r)) Mf := by
  refine Ct_of (own := RX7) (by decide) rfl (Nat.le_of_ble_eq_true rfl) ?_
  intro p e s m args below meth c F hr hl hmn
  unfold fX7_bandsAt at h
  show X p l e ({ frames := 4, cells := 0, slots := 0, locals := 100 * 4 }) s m args below meth c (MQ below (Qm b D cy (some (.int r)) Mf) args s 0 0 (fun q => b ≤ q)) 5 b D cy 0 0 M 0 [(0, .ref (b + v0)), (1, .ref (b + v1)), (2, .int v2)] []
  refine x_iconst F (v := 0) dX7_bandsAt_0 (by decide) ?_
  refine x_istore_n F (lv' := [(3, .int 0), (0, .ref (b + v0)), (1, .ref (b + v1)), (2, .int v2)]) dX7_bandsAt_1 rfl (by decide) rfl ?_
  refine x_iconst F (v := 0) dX7_bandsAt_2 (by decide) ?_
  refine x_istore F (lv' := [(4, .int 0), (3, .int 0), (0, .ref (b + v0)), (1, .ref (b + v1)), (2, .int v2)]) dX7_bandsAt_3 (by decide) rfl ?_
  have L5 : ∀ (v0 : Nat) (v1 : Nat) (v2 : Int32) (n : Nat) (v3 : Int32) (v4 : Int32) (M : Mem) (o : Int32 × Mem), fX7_bandsAt_L5 N v0 v1 v2 n v3 v4 M = some o → (∀ (r' : Int32) (M' : Mem), o = (r', M') → r' = r ∧ M' = Mf) → X p l e ({ frames := 4, cells := 0, slots := 0, locals := 100 * 4 }) s m args below meth c (MQ below (Qm b D cy (some (.int r)) Mf) args s 0 0 (fun q => b ≤ q)) 5 b D cy 0 0 M 5 [(0, .ref (b + v0)), (1, .ref (b + v1)), (2, .int v2), (3, .int v3), (4, .int v4)] [] := by
    intro v0 v1 v2 n
    induction n with
    | zero => intro v3 v4 M o h; exact absurd h (by rw [fX7_bandsAt_L5]; exact fun z => by cases z)
    | succ n ih =>
      intro v3 v4 M o h hR
      rw [fX7_bandsAt_L5] at h
      refine x_iload F dX7_bandsAt_5 4 rfl ?_
      refine x_aload_n F dX7_bandsAt_7 rfl 0 rfl ?_
      obtain ⟨x8, c8, h⟩ := bdS h
      refine x_getR F (ci := 7) (C := RX7) (T := TX7) (N := 7) rfl ⟨by decide, rfl⟩ inU7 0 (by decide) (fun _ _ _ => rfl) wl_413 c8 dX7_bandsAt_8 ?_
      obtain ⟨x11, c11, h⟩ := bdS h
      refine x_getI F (ci := 8) (C := RX8) (T := TX8) (N := 17) rfl ⟨by decide, rfl⟩ inU8 0 (by decide) (fun _ _ _ => rfl) wl_474 c11 dX7_bandsAt_11 ?_
      refine x_icmp_ge F (tgt := 58) dX7_bandsAt_14 (by decide) (fun c14 => ?_) (fun c14 => ?_)
      · rw [if_pos c14] at h
        refine x_iload_n F dX7_bandsAt_58 rfl 3 rfl ?_
        obtain rfl := Option.some.inj h
        obtain ⟨rfl, rfl⟩ := hR _ _ rfl
        exact x_iret F hr hl dX7_bandsAt_59
      · rw [if_neg c14] at h
        refine x_aload_n F dX7_bandsAt_17 rfl 0 rfl ?_
        refine x_aload_n F dX7_bandsAt_18 rfl 1 rfl ?_
        refine x_iload F dX7_bandsAt_19 4 rfl ?_
        refine x_aload_n F dX7_bandsAt_21 rfl 0 rfl ?_
        obtain ⟨x22, c22, h⟩ := bdS h
        refine x_getR F (ci := 7) (C := RX7) (T := TX7) (N := 7) rfl ⟨by decide, rfl⟩ inU7 1 (by decide) (fun _ _ _ => rfl) wl_407 c22 dX7_bandsAt_22 ?_
        refine x_iload_n F dX7_bandsAt_25 rfl 2 rfl ?_
        obtain ⟨x26, c26, h⟩ := bdS h
        refine x_aI F c26 dX7_bandsAt_26 ?_
        refine x_aload_n F dX7_bandsAt_27 rfl 0 rfl ?_
        obtain ⟨x28, c28, h⟩ := bdS h
        refine x_getR F (ci := 7) (C := RX7) (T := TX7) (N := 7) rfl ⟨by decide, rfl⟩ inU7 2 (by decide) (fun _ _ _ => rfl) wl_408 c28 dX7_bandsAt_28 ?_
        refine x_iload_n F dX7_bandsAt_31 rfl 2 rfl ?_
        obtain ⟨x32, c32, h⟩ := bdS h
        refine x_aI F c32 dX7_bandsAt_32 ?_
        refine x_aload_n F dX7_bandsAt_33 rfl 0 rfl ?_
        obtain ⟨x34, c34, h⟩ := bdS h
        refine x_getR F (ci := 7) (C := RX7) (T := TX7) (N := 7) rfl ⟨by decide, rfl⟩ inU7 3 (by decide) (fun _ _ _ => rfl) wl_409 c34 dX7_bandsAt_34 ?_
        refine x_iload_n F dX7_bandsAt_37 rfl 2 rfl ?_
        obtain ⟨x38, c38, h⟩ := bdS h
        refine x_aI F c38 dX7_bandsAt_38 ?_
        obtain ⟨k39, h⟩ := gdS h
        obtain ⟨⟨x39, M39⟩, c39, h⟩ := bdS h
        dsimp only at h
        refine x_callV F (As := [.ref (b + v1), .int v4, .int x26, .int x32, .int x38]) (rest := []) (res := (some (.int x39))) (ci := 7) (q := (RX7, TX7, 7)) rfl (by decide) k39 (k_X7_isSo l b D cy N v0 v1 v4 x26 x32 x38 M _ _ c39) wl_475 wl_476 wl_477 wl_430 wl_473 hd_X7_isSo ⟨Nat.le_of_ble_eq_true rfl, Nat.le_of_ble_eq_true rfl⟩ ⟨Nat.le_refl _, Nat.le_refl _⟩ (Nat.le_of_ble_eq_true rfl) rfl dX7_bandsAt_39 ?_
        refine x_if_eq F (tgt := 52) dX7_bandsAt_42 (by decide) (fun c42 => ?_) (fun c42 => ?_)
        · rw [if_pos c42] at h
          refine x_iinc F (v := v4 + 1) (lv' := [(4, .int (v4 + 1)), (0, .ref (b + v0)), (1, .ref (b + v1)), (2, .int v2), (3, .int v3)]) dX7_bandsAt_52 4 rfl rfl (by decide) rfl ?_
          refine x_goto F (tgt := 5) dX7_bandsAt_55 (by decide) ?_
          refine x_sub [1, 2, 3, 4, 0] rfl ?_
          exact ih v3 (v4 + 1) M39 o h hR
        · rw [if_neg c42] at h
          refine x_iload_n F dX7_bandsAt_45 rfl 3 rfl ?_
          refine x_iconst F (v := 1) dX7_bandsAt_46 (by decide) ?_
          refine x_iload F dX7_bandsAt_47 4 rfl ?_
          refine x_ishl F dX7_bandsAt_49 ?_
          refine x_ior F dX7_bandsAt_50 ?_
          refine x_istore_n F (lv' := [(3, .int (v3 ||| (1 <<< (v4 &&& 31)))), (0, .ref (b + v0)), (1, .ref (b + v1)), (2, .int v2), (4, .int v4)]) dX7_bandsAt_51 rfl (by decide) rfl ?_
          refine x_iinc F (v := v4 + 1) (lv' := [(4, .int (v4 + 1)), (3, .int (v3 ||| (1 <<< (v4 &&& 31)))), (0, .ref (b + v0)), (1, .ref (b + v1)), (2, .int v2)]) dX7_bandsAt_52 4 rfl rfl (by decide) rfl ?_
          refine x_goto F (tgt := 5) dX7_bandsAt_55 (by decide) ?_
          refine x_sub [2, 3, 4, 1, 0] rfl ?_
          exact ih (v3 ||| (1 <<< (v4 &&& 31))) (v4 + 1) M39 o h hR
  obtain ⟨o5, h5, h⟩ := bdS h
  refine x_sub [2, 3, 4, 1, 0] rfl ?_
  refine L5 v0 v1 v2 N 0 0 M o5 h5 (fun r' M' e => ?_)
  · subst e
    try dsimp only at h
    obtain ⟨rfl, rfl⟩ := retS h; exact ⟨rfl, rfl⟩
theorem hd_X7_bandsAt : (yX7_bandsAt).cls = RX7 ∧ (yX7_bandsAt).cls ≠ "java/lang/invoke/MethodHandle" ∧ (yX7_bandsAt).cls ≠ "java/lang/invoke/VarHandle" ∧ (parseMethodDescriptor (yX7_bandsAt).desc).map (fun d => d.parameters.length) = some 2 := by decide +kernel
theorem dX7_bandsIn_0 : decode cX7_bandsIn 0 = .ok (.iconst 1, 1) := by decide +kernel
theorem dX7_bandsIn_1 : decode cX7_bandsIn 1 = .ok (.aload_n 0, 1) := by decide +kernel
theorem dX7_bandsIn_2 : decode cX7_bandsIn 2 = .ok (.getfield 31, 3) := by decide +kernel
theorem dX7_bandsIn_5 : decode cX7_bandsIn 5 = .ok (.getfield 116, 3) := by decide +kernel
theorem dX7_bandsIn_8 : decode cX7_bandsIn 8 = .ok (.ishl, 1) := by decide +kernel
theorem dX7_bandsIn_9 : decode cX7_bandsIn 9 = .ok (.iconst 1, 1) := by decide +kernel
theorem dX7_bandsIn_10 : decode cX7_bandsIn 10 = .ok (.isub, 1) := by decide +kernel
theorem dX7_bandsIn_11 : decode cX7_bandsIn 11 = .ok (.istore_n 2, 1) := by decide +kernel
theorem dX7_bandsIn_12 : decode cX7_bandsIn 12 = .ok (.iconst 0, 1) := by decide +kernel
theorem dX7_bandsIn_13 : decode cX7_bandsIn 13 = .ok (.istore_n 3, 1) := by decide +kernel
theorem dX7_bandsIn_14 : decode cX7_bandsIn 14 = .ok (.iconst 0, 1) := by decide +kernel
theorem dX7_bandsIn_15 : decode cX7_bandsIn 15 = .ok (.istore 4, 2) := by decide +kernel
theorem dX7_bandsIn_17 : decode cX7_bandsIn 17 = .ok (.iload 4, 2) := by decide +kernel
theorem dX7_bandsIn_19 : decode cX7_bandsIn 19 = .ok (.aload_n 0, 1) := by decide +kernel
theorem dX7_bandsIn_20 : decode cX7_bandsIn 20 = .ok (.getfield 24, 3) := by decide +kernel
theorem dX7_bandsIn_23 : decode cX7_bandsIn 23 = .ok (.if_icmp .ge 145, 3) := by decide +kernel
theorem dX7_bandsIn_26 : decode cX7_bandsIn 26 = .ok (.aload_n 0, 1) := by decide +kernel
theorem dX7_bandsIn_27 : decode cX7_bandsIn 27 = .ok (.getfield 11, 3) := by decide +kernel
theorem dX7_bandsIn_30 : decode cX7_bandsIn 30 = .ok (.iload 4, 2) := by decide +kernel
theorem dX7_bandsIn_32 : decode cX7_bandsIn 32 = .ok (.iaload, 1) := by decide +kernel
theorem dX7_bandsIn_33 : decode cX7_bandsIn 33 = .ok (.istore 5, 2) := by decide +kernel
theorem dX7_bandsIn_35 : decode cX7_bandsIn 35 = .ok (.iload 5, 2) := by decide +kernel
theorem dX7_bandsIn_37 : decode cX7_bandsIn 37 = .ok (.bipush 10, 2) := by decide +kernel
theorem dX7_bandsIn_39 : decode cX7_bandsIn 39 = .ok (.if_icmp .ne 31, 3) := by decide +kernel
theorem dX7_bandsIn_42 : decode cX7_bandsIn 42 = .ok (.iload_n 3, 1) := by decide +kernel
theorem dX7_bandsIn_43 : decode cX7_bandsIn 43 = .ok (.iconst 1, 1) := by decide +kernel
theorem dX7_bandsIn_44 : decode cX7_bandsIn 44 = .ok (.if_icmp .lt 26, 3) := by decide +kernel
theorem dX7_bandsIn_47 : decode cX7_bandsIn 47 = .ok (.aload_n 0, 1) := by decide +kernel
theorem dX7_bandsIn_48 : decode cX7_bandsIn 48 = .ok (.getfield 21, 3) := by decide +kernel
theorem dX7_bandsIn_51 : decode cX7_bandsIn 51 = .ok (.iload_n 3, 1) := by decide +kernel
theorem dX7_bandsIn_52 : decode cX7_bandsIn 52 = .ok (.iconst 1, 1) := by decide +kernel
theorem dX7_bandsIn_53 : decode cX7_bandsIn 53 = .ok (.isub, 1) := by decide +kernel
theorem dX7_bandsIn_54 : decode cX7_bandsIn 54 = .ok (.iload_n 2, 1) := by decide +kernel
theorem dX7_bandsIn_55 : decode cX7_bandsIn 55 = .ok (.aload_n 0, 1) := by decide +kernel
theorem dX7_bandsIn_56 : decode cX7_bandsIn 56 = .ok (.getfield 21, 3) := by decide +kernel
theorem dX7_bandsIn_59 : decode cX7_bandsIn 59 = .ok (.iload_n 3, 1) := by decide +kernel
theorem dX7_bandsIn_60 : decode cX7_bandsIn 60 = .ok (.iconst 1, 1) := by decide +kernel
theorem dX7_bandsIn_61 : decode cX7_bandsIn 61 = .ok (.isub, 1) := by decide +kernel
theorem dX7_bandsIn_62 : decode cX7_bandsIn 62 = .ok (.iaload, 1) := by decide +kernel
theorem dX7_bandsIn_63 : decode cX7_bandsIn 63 = .ok (.iconst (-1), 1) := by decide +kernel
theorem dX7_bandsIn_64 : decode cX7_bandsIn 64 = .ok (.ixor, 1) := by decide +kernel
theorem dX7_bandsIn_65 : decode cX7_bandsIn 65 = .ok (.iand, 1) := by decide +kernel
theorem dX7_bandsIn_66 : decode cX7_bandsIn 66 = .ok (.iastore, 1) := by decide +kernel
theorem dX7_bandsIn_67 : decode cX7_bandsIn 67 = .ok (.goto 95, 3) := by decide +kernel
theorem dX7_bandsIn_70 : decode cX7_bandsIn 70 = .ok (.iload 5, 2) := by decide +kernel
theorem dX7_bandsIn_72 : decode cX7_bandsIn 72 = .ok (.bipush 9, 2) := by decide +kernel
theorem dX7_bandsIn_74 : decode cX7_bandsIn 74 = .ok (.if_icmp .ne 31, 3) := by decide +kernel
theorem dX7_bandsIn_77 : decode cX7_bandsIn 77 = .ok (.iload_n 3, 1) := by decide +kernel
theorem dX7_bandsIn_78 : decode cX7_bandsIn 78 = .ok (.iconst 2, 1) := by decide +kernel
theorem dX7_bandsIn_79 : decode cX7_bandsIn 79 = .ok (.if_icmp .lt 26, 3) := by decide +kernel
theorem dX7_bandsIn_82 : decode cX7_bandsIn 82 = .ok (.iinc 3 (-1), 3) := by decide +kernel
theorem dX7_bandsIn_85 : decode cX7_bandsIn 85 = .ok (.aload_n 0, 1) := by decide +kernel
theorem dX7_bandsIn_86 : decode cX7_bandsIn 86 = .ok (.getfield 21, 3) := by decide +kernel
theorem dX7_bandsIn_89 : decode cX7_bandsIn 89 = .ok (.iload_n 3, 1) := by decide +kernel
theorem dX7_bandsIn_90 : decode cX7_bandsIn 90 = .ok (.iconst 1, 1) := by decide +kernel
theorem dX7_bandsIn_91 : decode cX7_bandsIn 91 = .ok (.isub, 1) := by decide +kernel
theorem dX7_bandsIn_92 : decode cX7_bandsIn 92 = .ok (.dup2, 1) := by decide +kernel
theorem dX7_bandsIn_93 : decode cX7_bandsIn 93 = .ok (.iaload, 1) := by decide +kernel
theorem dX7_bandsIn_94 : decode cX7_bandsIn 94 = .ok (.aload_n 0, 1) := by decide +kernel
theorem dX7_bandsIn_95 : decode cX7_bandsIn 95 = .ok (.getfield 21, 3) := by decide +kernel
theorem dX7_bandsIn_98 : decode cX7_bandsIn 98 = .ok (.iload_n 3, 1) := by decide +kernel
theorem dX7_bandsIn_99 : decode cX7_bandsIn 99 = .ok (.iaload, 1) := by decide +kernel
theorem dX7_bandsIn_100 : decode cX7_bandsIn 100 = .ok (.iand, 1) := by decide +kernel
theorem dX7_bandsIn_101 : decode cX7_bandsIn 101 = .ok (.iastore, 1) := by decide +kernel
theorem dX7_bandsIn_102 : decode cX7_bandsIn 102 = .ok (.goto 60, 3) := by decide +kernel
theorem dX7_bandsIn_105 : decode cX7_bandsIn 105 = .ok (.iload 5, 2) := by decide +kernel
theorem dX7_bandsIn_107 : decode cX7_bandsIn 107 = .ok (.bipush 8, 2) := by decide +kernel
theorem dX7_bandsIn_109 : decode cX7_bandsIn 109 = .ok (.if_icmp .ne 31, 3) := by decide +kernel
theorem dX7_bandsIn_112 : decode cX7_bandsIn 112 = .ok (.iload_n 3, 1) := by decide +kernel
theorem dX7_bandsIn_113 : decode cX7_bandsIn 113 = .ok (.iconst 2, 1) := by decide +kernel
theorem dX7_bandsIn_114 : decode cX7_bandsIn 114 = .ok (.if_icmp .lt 26, 3) := by decide +kernel
theorem dX7_bandsIn_117 : decode cX7_bandsIn 117 = .ok (.iinc 3 (-1), 3) := by decide +kernel
theorem dX7_bandsIn_120 : decode cX7_bandsIn 120 = .ok (.aload_n 0, 1) := by decide +kernel
theorem dX7_bandsIn_121 : decode cX7_bandsIn 121 = .ok (.getfield 21, 3) := by decide +kernel
theorem dX7_bandsIn_124 : decode cX7_bandsIn 124 = .ok (.iload_n 3, 1) := by decide +kernel
theorem dX7_bandsIn_125 : decode cX7_bandsIn 125 = .ok (.iconst 1, 1) := by decide +kernel
theorem dX7_bandsIn_126 : decode cX7_bandsIn 126 = .ok (.isub, 1) := by decide +kernel
theorem dX7_bandsIn_127 : decode cX7_bandsIn 127 = .ok (.dup2, 1) := by decide +kernel
theorem dX7_bandsIn_128 : decode cX7_bandsIn 128 = .ok (.iaload, 1) := by decide +kernel
theorem dX7_bandsIn_129 : decode cX7_bandsIn 129 = .ok (.aload_n 0, 1) := by decide +kernel
theorem dX7_bandsIn_130 : decode cX7_bandsIn 130 = .ok (.getfield 21, 3) := by decide +kernel
theorem dX7_bandsIn_133 : decode cX7_bandsIn 133 = .ok (.iload_n 3, 1) := by decide +kernel
theorem dX7_bandsIn_134 : decode cX7_bandsIn 134 = .ok (.iaload, 1) := by decide +kernel
theorem dX7_bandsIn_135 : decode cX7_bandsIn 135 = .ok (.ior, 1) := by decide +kernel
theorem dX7_bandsIn_136 : decode cX7_bandsIn 136 = .ok (.iastore, 1) := by decide +kernel
theorem dX7_bandsIn_137 : decode cX7_bandsIn 137 = .ok (.goto 25, 3) := by decide +kernel
theorem dX7_bandsIn_140 : decode cX7_bandsIn 140 = .ok (.iload_n 3, 1) := by decide +kernel
theorem dX7_bandsIn_141 : decode cX7_bandsIn 141 = .ok (.bipush 40, 2) := by decide +kernel
theorem dX7_bandsIn_143 : decode cX7_bandsIn 143 = .ok (.if_icmp .ge 19, 3) := by decide +kernel
theorem dX7_bandsIn_146 : decode cX7_bandsIn 146 = .ok (.aload_n 0, 1) := by decide +kernel
theorem dX7_bandsIn_147 : decode cX7_bandsIn 147 = .ok (.getfield 21, 3) := by decide +kernel
theorem dX7_bandsIn_150 : decode cX7_bandsIn 150 = .ok (.iload_n 3, 1) := by decide +kernel
theorem dX7_bandsIn_151 : decode cX7_bandsIn 151 = .ok (.aload_n 0, 1) := by decide +kernel
theorem dX7_bandsIn_152 : decode cX7_bandsIn 152 = .ok (.aload_n 1, 1) := by decide +kernel
theorem dX7_bandsIn_153 : decode cX7_bandsIn 153 = .ok (.iload 4, 2) := by decide +kernel
theorem dX7_bandsIn_155 : decode cX7_bandsIn 155 = .ok (.invokevirtual 119, 3) := by decide +kernel
theorem dX7_bandsIn_158 : decode cX7_bandsIn 158 = .ok (.iastore, 1) := by decide +kernel
theorem dX7_bandsIn_159 : decode cX7_bandsIn 159 = .ok (.iinc 3 1, 3) := by decide +kernel
theorem dX7_bandsIn_162 : decode cX7_bandsIn 162 = .ok (.iinc 4 1, 3) := by decide +kernel
theorem dX7_bandsIn_165 : decode cX7_bandsIn 165 = .ok (.goto (-148), 3) := by decide +kernel
theorem dX7_bandsIn_168 : decode cX7_bandsIn 168 = .ok (.iload_n 3, 1) := by decide +kernel
theorem dX7_bandsIn_169 : decode cX7_bandsIn 169 = .ok (.ifCond .le 12, 3) := by decide +kernel
theorem dX7_bandsIn_172 : decode cX7_bandsIn 172 = .ok (.aload_n 0, 1) := by decide +kernel
theorem dX7_bandsIn_173 : decode cX7_bandsIn 173 = .ok (.getfield 21, 3) := by decide +kernel
theorem dX7_bandsIn_176 : decode cX7_bandsIn 176 = .ok (.iconst 0, 1) := by decide +kernel
theorem dX7_bandsIn_177 : decode cX7_bandsIn 177 = .ok (.iaload, 1) := by decide +kernel
theorem dX7_bandsIn_178 : decode cX7_bandsIn 178 = .ok (.goto 4, 3) := by decide +kernel
theorem dX7_bandsIn_181 : decode cX7_bandsIn 181 = .ok (.iconst 0, 1) := by decide +kernel
theorem dX7_bandsIn_182 : decode cX7_bandsIn 182 = .ok (.ireturn, 1) := by decide +kernel
def fX7_bandsIn_J140_17 (N : Nat) (rc : Int32 → Int32 → Mem → Option (Int32 × Mem)) (v0 : Nat) (v1 : Nat) (v2 : Int32) (v3 : Int32) (v4 : Int32) (M : Mem) : Option (Int32 × Mem) := (if 40 ≤ v3 then rc v3 (v4 + 1) M else ((fR M 7 v0 4).bind fun x147 => (if mK M v0 = 8 then ((fX7_bandsAt N v0 v1 v4 M).bind fun (x155, M155) => ((tI M155 x147 v3 x155).bind fun M158 => rc (v3 + 1) (v4 + 1) M158)) else none)))
def fX7_bandsIn_J105_17 (N : Nat) (rc : Int32 → Int32 → Mem → Option (Int32 × Mem)) (v0 : Nat) (v1 : Nat) (v2 : Int32) (v3 : Int32) (v4 : Int32) (v5 : Int32) (M : Mem) : Option (Int32 × Mem) := (if v5 = 8 then (if v3 < 2 then fX7_bandsIn_J140_17 N rc v0 v1 v2 v3 v4 M else ((fR M 7 v0 4).bind fun x121 => ((aI M x121 ((v3 + (-1)) - 1)).bind fun x128 => ((fR M 7 v0 4).bind fun x130 => ((aI M x130 (v3 + (-1))).bind fun x134 => ((tI M x121 ((v3 + (-1)) - 1) (x128 ||| x134)).bind fun M136 => rc (v3 + (-1)) (v4 + 1) M136)))))) else fX7_bandsIn_J140_17 N rc v0 v1 v2 v3 v4 M)
def fX7_bandsIn_J70_17 (N : Nat) (rc : Int32 → Int32 → Mem → Option (Int32 × Mem)) (v0 : Nat) (v1 : Nat) (v2 : Int32) (v3 : Int32) (v4 : Int32) (v5 : Int32) (M : Mem) : Option (Int32 × Mem) := (if v5 = 9 then (if v3 < 2 then fX7_bandsIn_J105_17 N rc v0 v1 v2 v3 v4 v5 M else ((fR M 7 v0 4).bind fun x86 => ((aI M x86 ((v3 + (-1)) - 1)).bind fun x93 => ((fR M 7 v0 4).bind fun x95 => ((aI M x95 (v3 + (-1))).bind fun x99 => ((tI M x86 ((v3 + (-1)) - 1) (x93 &&& x99)).bind fun M101 => rc (v3 + (-1)) (v4 + 1) M101)))))) else fX7_bandsIn_J105_17 N rc v0 v1 v2 v3 v4 v5 M)
def fX7_bandsIn_L17 (N : Nat) (v0 : Nat) (v1 : Nat) (v2 : Int32) : Nat → Int32 → Int32 → Mem → Option (Int32 × Mem)
  | 0, _, _, _ => none
  | n + 1, v3, v4, M => ((fI M 7 v0 5).bind fun x20 => (if x20 ≤ v4 then some (v3, M) else ((fR M 7 v0 1).bind fun x27 => ((aI M x27 v4).bind fun x32 => (if x32 = 10 then (if v3 < 1 then fX7_bandsIn_J70_17 N (fX7_bandsIn_L17 N v0 v1 v2 n) v0 v1 v2 v3 v4 x32 M else ((fR M 7 v0 4).bind fun x48 => ((fR M 7 v0 4).bind fun x56 => ((aI M x56 (v3 - 1)).bind fun x62 => ((tI M x48 (v3 - 1) (v2 &&& (x62 ^^^ ((-1))))).bind fun M66 => fX7_bandsIn_L17 N v0 v1 v2 n v3 (v4 + 1) M66))))) else fX7_bandsIn_J70_17 N (fX7_bandsIn_L17 N v0 v1 v2 n) v0 v1 v2 v3 v4 x32 M)))))
def fX7_bandsIn (N : Nat) (v0 : Nat) (v1 : Nat) (M : Mem) : Option (Int32 × Mem) := ((fR M 7 v0 0).bind fun x2 => ((fI M 8 x2 0).bind fun x5 => ((fX7_bandsIn_L17 N v0 v1 ((1 <<< (x5 &&& 31)) - 1) N 0 0 M).bind fun o17 => match o17 with | (w3_17, M17) => (if w3_17 ≤ 0 then some (0, M17) else ((fR M17 7 v0 4).bind fun x173 => ((aI M17 x173 0).bind fun x177 => some (x177, M17)))))))
set_option maxHeartbeats 4000000 in
set_option maxRecDepth 100000 in
theorem k_X7_bandsIn (l : Launch) (b : Nat) (D : va_G) (cy : Nat → ClassId) (N : Nat) (v0 : Nat) (v1 : Nat) (M : Mem) (r : Int32) (Mf : Mem) (h : fX7_bandsIn N v0 v1 M = some (r, Mf)) : Ct l yX7_bandsIn cX7_bandsIn 6 (some .int) 5 0 0 b D cy [.ref (b + v0), .ref (b + v1)] M (some (.int r)) Mf := by
  refine Ct_of (own := RX7) (by decide) rfl (Nat.le_of_ble_eq_true rfl) ?_
  intro p e s m args below meth c F hr hl hmn
  unfold fX7_bandsIn at h
  show X p l e ({ frames := 5, cells := 0, slots := 0, locals := 100 * 5 }) s m args below meth c (MQ below (Qm b D cy (some (.int r)) Mf) args s 0 0 (fun q => b ≤ q)) 6 b D cy 0 0 M 0 [(0, .ref (b + v0)), (1, .ref (b + v1))] []
  refine x_iconst F (v := 1) dX7_bandsIn_0 (by decide) ?_
  refine x_aload_n F dX7_bandsIn_1 rfl 0 rfl ?_
  obtain ⟨x2, c2, h⟩ := bdS h
  refine x_getR F (ci := 7) (C := RX7) (T := TX7) (N := 7) rfl ⟨by decide, rfl⟩ inU7 0 (by decide) (fun _ _ _ => rfl) wl_413 c2 dX7_bandsIn_2 ?_
  obtain ⟨x5, c5, h⟩ := bdS h
  refine x_getI F (ci := 8) (C := RX8) (T := TX8) (N := 17) rfl ⟨by decide, rfl⟩ inU8 0 (by decide) (fun _ _ _ => rfl) wl_474 c5 dX7_bandsIn_5 ?_
  refine x_ishl F dX7_bandsIn_8 ?_
  refine x_iconst F (v := 1) dX7_bandsIn_9 (by decide) ?_
  refine x_isub F dX7_bandsIn_10 ?_
  refine x_istore_n F (lv' := [(2, .int ((1 <<< (x5 &&& 31)) - 1)), (0, .ref (b + v0)), (1, .ref (b + v1))]) dX7_bandsIn_11 rfl (by decide) rfl ?_
  refine x_iconst F (v := 0) dX7_bandsIn_12 (by decide) ?_
  refine x_istore_n F (lv' := [(3, .int 0), (2, .int ((1 <<< (x5 &&& 31)) - 1)), (0, .ref (b + v0)), (1, .ref (b + v1))]) dX7_bandsIn_13 rfl (by decide) rfl ?_
  refine x_iconst F (v := 0) dX7_bandsIn_14 (by decide) ?_
  refine x_istore F (lv' := [(4, .int 0), (3, .int 0), (2, .int ((1 <<< (x5 &&& 31)) - 1)), (0, .ref (b + v0)), (1, .ref (b + v1))]) dX7_bandsIn_15 (by decide) rfl ?_
  have L17 : ∀ (v0 : Nat) (v1 : Nat) (v2 : Int32) (n : Nat) (v3 : Int32) (v4 : Int32) (M : Mem) (o : Int32 × Mem), fX7_bandsIn_L17 N v0 v1 v2 n v3 v4 M = some o → (∀ (w3 : Int32) (M' : Mem), o = (w3, M') → X p l e ({ frames := 5, cells := 0, slots := 0, locals := 100 * 5 }) s m args below meth c (MQ below (Qm b D cy (some (.int r)) Mf) args s 0 0 (fun q => b ≤ q)) 6 b D cy 0 0 M' 168 [(0, .ref (b + v0)), (3, .int w3)] []) → X p l e ({ frames := 5, cells := 0, slots := 0, locals := 100 * 5 }) s m args below meth c (MQ below (Qm b D cy (some (.int r)) Mf) args s 0 0 (fun q => b ≤ q)) 6 b D cy 0 0 M 17 [(0, .ref (b + v0)), (1, .ref (b + v1)), (2, .int v2), (3, .int v3), (4, .int v4)] [] := by
    intro v0 v1 v2 n
    induction n with
    | zero => intro v3 v4 M o h; exact absurd h (by rw [fX7_bandsIn_L17]; exact fun z => by cases z)
    | succ n ih =>
      intro v3 v4 M o h hE
      rw [fX7_bandsIn_L17] at h
      have J140 : ∀ (v3 : Int32) (v4 : Int32) (M : Mem), fX7_bandsIn_J140_17 N (fX7_bandsIn_L17 N v0 v1 v2 n) v0 v1 v2 v3 v4 M = some o → X p l e ({ frames := 5, cells := 0, slots := 0, locals := 100 * 5 }) s m args below meth c (MQ below (Qm b D cy (some (.int r)) Mf) args s 0 0 (fun q => b ≤ q)) 6 b D cy 0 0 M 140 [(0, .ref (b + v0)), (1, .ref (b + v1)), (2, .int v2), (3, .int v3), (4, .int v4)] [] := by
        intro v3 v4 M h
        unfold fX7_bandsIn_J140_17 at h
        refine x_iload_n F dX7_bandsIn_140 rfl 3 rfl ?_
        refine x_bipush F (v := 40) dX7_bandsIn_141 (by decide) ?_
        refine x_icmp_ge F (tgt := 162) dX7_bandsIn_143 (by decide) (fun c143 => ?_) (fun c143 => ?_)
        · rw [if_pos c143] at h
          refine x_iinc F (v := v4 + 1) (lv' := [(4, .int (v4 + 1)), (0, .ref (b + v0)), (1, .ref (b + v1)), (2, .int v2), (3, .int v3)]) dX7_bandsIn_162 4 rfl rfl (by decide) rfl ?_
          refine x_goto F (tgt := 17) dX7_bandsIn_165 (by decide) ?_
          refine x_sub [1, 2, 3, 4, 0] rfl ?_
          exact ih v3 (v4 + 1) M o h hE
        · rw [if_neg c143] at h
          refine x_aload_n F dX7_bandsIn_146 rfl 0 rfl ?_
          obtain ⟨x147, c147, h⟩ := bdS h
          refine x_getR F (ci := 7) (C := RX7) (T := TX7) (N := 7) rfl ⟨by decide, rfl⟩ inU7 4 (by decide) (fun _ _ _ => rfl) wl_410 c147 dX7_bandsIn_147 ?_
          refine x_iload_n F dX7_bandsIn_150 rfl 3 rfl ?_
          refine x_aload_n F dX7_bandsIn_151 rfl 0 rfl ?_
          refine x_aload_n F dX7_bandsIn_152 rfl 1 rfl ?_
          refine x_iload F dX7_bandsIn_153 4 rfl ?_
          obtain ⟨k155, h⟩ := gdS h
          obtain ⟨⟨x155, M155⟩, c155, h⟩ := bdS h
          dsimp only at h
          refine x_callV F (As := [.ref (b + v1), .int v4]) (rest := [.int v3, .ref (b + x147)]) (res := (some (.int x155))) (ci := 7) (q := (RX7, TX7, 7)) rfl (by decide) k155 (k_X7_bandsAt l b D cy N v0 v1 v4 M _ _ c155) wl_479 wl_480 wl_481 wl_430 wl_478 hd_X7_bandsAt ⟨Nat.le_of_ble_eq_true rfl, Nat.le_of_ble_eq_true rfl⟩ ⟨Nat.le_refl _, Nat.le_refl _⟩ (Nat.le_of_ble_eq_true rfl) rfl dX7_bandsIn_155 ?_
          obtain ⟨M158, c158, h⟩ := bdS h
          refine x_tI F c158 dX7_bandsIn_158 ?_
          refine x_iinc F (v := v3 + 1) (lv' := [(3, .int (v3 + 1)), (0, .ref (b + v0)), (1, .ref (b + v1)), (2, .int v2), (4, .int v4)]) dX7_bandsIn_159 3 rfl rfl (by decide) rfl ?_
          refine x_iinc F (v := v4 + 1) (lv' := [(4, .int (v4 + 1)), (3, .int (v3 + 1)), (0, .ref (b + v0)), (1, .ref (b + v1)), (2, .int v2)]) dX7_bandsIn_162 4 rfl rfl (by decide) rfl ?_
          refine x_goto F (tgt := 17) dX7_bandsIn_165 (by decide) ?_
          refine x_sub [2, 3, 4, 1, 0] rfl ?_
          exact ih (v3 + 1) (v4 + 1) M158 o h hE
      have J105 : ∀ (v3 : Int32) (v4 : Int32) (v5 : Int32) (M : Mem), fX7_bandsIn_J105_17 N (fX7_bandsIn_L17 N v0 v1 v2 n) v0 v1 v2 v3 v4 v5 M = some o → X p l e ({ frames := 5, cells := 0, slots := 0, locals := 100 * 5 }) s m args below meth c (MQ below (Qm b D cy (some (.int r)) Mf) args s 0 0 (fun q => b ≤ q)) 6 b D cy 0 0 M 105 [(0, .ref (b + v0)), (1, .ref (b + v1)), (2, .int v2), (3, .int v3), (4, .int v4), (5, .int v5)] [] := by
        intro v3 v4 v5 M h
        unfold fX7_bandsIn_J105_17 at h
        refine x_iload F dX7_bandsIn_105 5 rfl ?_
        refine x_bipush F (v := 8) dX7_bandsIn_107 (by decide) ?_
        refine x_icmp_ne F (tgt := 140) dX7_bandsIn_109 (by decide) (fun c109 => ?_) (fun c109 => ?_)
        · rw [if_neg c109] at h
          refine x_sub [0, 1, 2, 3, 4] rfl ?_
          exact J140 v3 v4 M h
        · rw [if_pos c109] at h
          refine x_iload_n F dX7_bandsIn_112 rfl 3 rfl ?_
          refine x_iconst F (v := 2) dX7_bandsIn_113 (by decide) ?_
          refine x_icmp_lt F (tgt := 140) dX7_bandsIn_114 (by decide) (fun c114 => ?_) (fun c114 => ?_)
          · rw [if_pos c114] at h
            refine x_sub [0, 1, 2, 3, 4] rfl ?_
            exact J140 v3 v4 M h
          · rw [if_neg c114] at h
            refine x_iinc F (v := v3 + (-1)) (lv' := [(3, .int (v3 + (-1))), (0, .ref (b + v0)), (1, .ref (b + v1)), (2, .int v2), (4, .int v4), (5, .int v5)]) dX7_bandsIn_117 3 rfl rfl (by decide) rfl ?_
            refine x_aload_n F dX7_bandsIn_120 rfl 1 rfl ?_
            obtain ⟨x121, c121, h⟩ := bdS h
            refine x_getR F (ci := 7) (C := RX7) (T := TX7) (N := 7) rfl ⟨by decide, rfl⟩ inU7 4 (by decide) (fun _ _ _ => rfl) wl_410 c121 dX7_bandsIn_121 ?_
            refine x_iload_n F dX7_bandsIn_124 rfl 0 rfl ?_
            refine x_iconst F (v := 1) dX7_bandsIn_125 (by decide) ?_
            refine x_isub F dX7_bandsIn_126 ?_
            refine x_dup2 F dX7_bandsIn_127 rfl rfl ?_
            obtain ⟨x128, c128, h⟩ := bdS h
            refine x_aI F c128 dX7_bandsIn_128 ?_
            refine x_aload_n F dX7_bandsIn_129 rfl 1 rfl ?_
            obtain ⟨x130, c130, h⟩ := bdS h
            refine x_getR F (ci := 7) (C := RX7) (T := TX7) (N := 7) rfl ⟨by decide, rfl⟩ inU7 4 (by decide) (fun _ _ _ => rfl) wl_410 c130 dX7_bandsIn_130 ?_
            refine x_iload_n F dX7_bandsIn_133 rfl 0 rfl ?_
            obtain ⟨x134, c134, h⟩ := bdS h
            refine x_aI F c134 dX7_bandsIn_134 ?_
            refine x_ior F dX7_bandsIn_135 ?_
            obtain ⟨M136, c136, h⟩ := bdS h
            refine x_tI F c136 dX7_bandsIn_136 ?_
            refine x_goto F (tgt := 162) dX7_bandsIn_137 (by decide) ?_
            refine x_iinc F (v := v4 + 1) (lv' := [(4, .int (v4 + 1)), (3, .int (v3 + (-1))), (0, .ref (b + v0)), (1, .ref (b + v1)), (2, .int v2), (5, .int v5)]) dX7_bandsIn_162 4 rfl rfl (by decide) rfl ?_
            refine x_goto F (tgt := 17) dX7_bandsIn_165 (by decide) ?_
            refine x_sub [2, 3, 4, 1, 0] rfl ?_
            exact ih (v3 + (-1)) (v4 + 1) M136 o h hE
      have J70 : ∀ (v3 : Int32) (v4 : Int32) (v5 : Int32) (M : Mem), fX7_bandsIn_J70_17 N (fX7_bandsIn_L17 N v0 v1 v2 n) v0 v1 v2 v3 v4 v5 M = some o → X p l e ({ frames := 5, cells := 0, slots := 0, locals := 100 * 5 }) s m args below meth c (MQ below (Qm b D cy (some (.int r)) Mf) args s 0 0 (fun q => b ≤ q)) 6 b D cy 0 0 M 70 [(0, .ref (b + v0)), (1, .ref (b + v1)), (2, .int v2), (3, .int v3), (4, .int v4), (5, .int v5)] [] := by
        intro v3 v4 v5 M h
        unfold fX7_bandsIn_J70_17 at h
        refine x_iload F dX7_bandsIn_70 5 rfl ?_
        refine x_bipush F (v := 9) dX7_bandsIn_72 (by decide) ?_
        refine x_icmp_ne F (tgt := 105) dX7_bandsIn_74 (by decide) (fun c74 => ?_) (fun c74 => ?_)
        · rw [if_neg c74] at h
          exact J105 v3 v4 v5 M h
        · rw [if_pos c74] at h
          refine x_iload_n F dX7_bandsIn_77 rfl 3 rfl ?_
          refine x_iconst F (v := 2) dX7_bandsIn_78 (by decide) ?_
          refine x_icmp_lt F (tgt := 105) dX7_bandsIn_79 (by decide) (fun c79 => ?_) (fun c79 => ?_)
          · rw [if_pos c79] at h
            exact J105 v3 v4 v5 M h
          · rw [if_neg c79] at h
            refine x_iinc F (v := v3 + (-1)) (lv' := [(3, .int (v3 + (-1))), (0, .ref (b + v0)), (1, .ref (b + v1)), (2, .int v2), (4, .int v4), (5, .int v5)]) dX7_bandsIn_82 3 rfl rfl (by decide) rfl ?_
            refine x_aload_n F dX7_bandsIn_85 rfl 1 rfl ?_
            obtain ⟨x86, c86, h⟩ := bdS h
            refine x_getR F (ci := 7) (C := RX7) (T := TX7) (N := 7) rfl ⟨by decide, rfl⟩ inU7 4 (by decide) (fun _ _ _ => rfl) wl_410 c86 dX7_bandsIn_86 ?_
            refine x_iload_n F dX7_bandsIn_89 rfl 0 rfl ?_
            refine x_iconst F (v := 1) dX7_bandsIn_90 (by decide) ?_
            refine x_isub F dX7_bandsIn_91 ?_
            refine x_dup2 F dX7_bandsIn_92 rfl rfl ?_
            obtain ⟨x93, c93, h⟩ := bdS h
            refine x_aI F c93 dX7_bandsIn_93 ?_
            refine x_aload_n F dX7_bandsIn_94 rfl 1 rfl ?_
            obtain ⟨x95, c95, h⟩ := bdS h
            refine x_getR F (ci := 7) (C := RX7) (T := TX7) (N := 7) rfl ⟨by decide, rfl⟩ inU7 4 (by decide) (fun _ _ _ => rfl) wl_410 c95 dX7_bandsIn_95 ?_
            refine x_iload_n F dX7_bandsIn_98 rfl 0 rfl ?_
            obtain ⟨x99, c99, h⟩ := bdS h
            refine x_aI F c99 dX7_bandsIn_99 ?_
            refine x_iand F dX7_bandsIn_100 ?_
            obtain ⟨M101, c101, h⟩ := bdS h
            refine x_tI F c101 dX7_bandsIn_101 ?_
            refine x_goto F (tgt := 162) dX7_bandsIn_102 (by decide) ?_
            refine x_iinc F (v := v4 + 1) (lv' := [(4, .int (v4 + 1)), (3, .int (v3 + (-1))), (0, .ref (b + v0)), (1, .ref (b + v1)), (2, .int v2), (5, .int v5)]) dX7_bandsIn_162 4 rfl rfl (by decide) rfl ?_
            refine x_goto F (tgt := 17) dX7_bandsIn_165 (by decide) ?_
            refine x_sub [2, 3, 4, 1, 0] rfl ?_
            exact ih (v3 + (-1)) (v4 + 1) M101 o h hE
      refine x_iload F dX7_bandsIn_17 4 rfl ?_
      refine x_aload_n F dX7_bandsIn_19 rfl 0 rfl ?_
      obtain ⟨x20, c20, h⟩ := bdS h
      refine x_getI F (ci := 7) (C := RX7) (T := TX7) (N := 7) rfl ⟨by decide, rfl⟩ inU7 5 (by decide) (fun _ _ _ => rfl) wl_411 c20 dX7_bandsIn_20 ?_
      refine x_icmp_ge F (tgt := 168) dX7_bandsIn_23 (by decide) (fun c23 => ?_) (fun c23 => ?_)
      · rw [if_pos c23] at h
        obtain rfl := Option.some.inj h
        refine x_sub [0, 3] rfl ?_
        exact hE _ _ rfl
      · rw [if_neg c23] at h
        refine x_aload_n F dX7_bandsIn_26 rfl 0 rfl ?_
        obtain ⟨x27, c27, h⟩ := bdS h
        refine x_getR F (ci := 7) (C := RX7) (T := TX7) (N := 7) rfl ⟨by decide, rfl⟩ inU7 1 (by decide) (fun _ _ _ => rfl) wl_407 c27 dX7_bandsIn_27 ?_
        refine x_iload F dX7_bandsIn_30 4 rfl ?_
        obtain ⟨x32, c32, h⟩ := bdS h
        refine x_aI F c32 dX7_bandsIn_32 ?_
        refine x_istore F (lv' := [(5, .int x32), (0, .ref (b + v0)), (1, .ref (b + v1)), (2, .int v2), (3, .int v3), (4, .int v4)]) dX7_bandsIn_33 (by decide) rfl ?_
        refine x_iload F dX7_bandsIn_35 0 rfl ?_
        refine x_bipush F (v := 10) dX7_bandsIn_37 (by decide) ?_
        refine x_icmp_ne F (tgt := 70) dX7_bandsIn_39 (by decide) (fun c39 => ?_) (fun c39 => ?_)
        · rw [if_neg c39] at h
          refine x_sub [1, 2, 3, 4, 5, 0] rfl ?_
          exact J70 v3 v4 x32 M h
        · rw [if_pos c39] at h
          refine x_iload_n F dX7_bandsIn_42 rfl 4 rfl ?_
          refine x_iconst F (v := 1) dX7_bandsIn_43 (by decide) ?_
          refine x_icmp_lt F (tgt := 70) dX7_bandsIn_44 (by decide) (fun c44 => ?_) (fun c44 => ?_)
          · rw [if_pos c44] at h
            refine x_sub [1, 2, 3, 4, 5, 0] rfl ?_
            exact J70 v3 v4 x32 M h
          · rw [if_neg c44] at h
            refine x_aload_n F dX7_bandsIn_47 rfl 1 rfl ?_
            obtain ⟨x48, c48, h⟩ := bdS h
            refine x_getR F (ci := 7) (C := RX7) (T := TX7) (N := 7) rfl ⟨by decide, rfl⟩ inU7 4 (by decide) (fun _ _ _ => rfl) wl_410 c48 dX7_bandsIn_48 ?_
            refine x_iload_n F dX7_bandsIn_51 rfl 4 rfl ?_
            refine x_iconst F (v := 1) dX7_bandsIn_52 (by decide) ?_
            refine x_isub F dX7_bandsIn_53 ?_
            refine x_iload_n F dX7_bandsIn_54 rfl 3 rfl ?_
            refine x_aload_n F dX7_bandsIn_55 rfl 1 rfl ?_
            obtain ⟨x56, c56, h⟩ := bdS h
            refine x_getR F (ci := 7) (C := RX7) (T := TX7) (N := 7) rfl ⟨by decide, rfl⟩ inU7 4 (by decide) (fun _ _ _ => rfl) wl_410 c56 dX7_bandsIn_56 ?_
            refine x_iload_n F dX7_bandsIn_59 rfl 4 rfl ?_
            refine x_iconst F (v := 1) dX7_bandsIn_60 (by decide) ?_
            refine x_isub F dX7_bandsIn_61 ?_
            obtain ⟨x62, c62, h⟩ := bdS h
            refine x_aI F c62 dX7_bandsIn_62 ?_
            refine x_iconst F (v := (-1)) dX7_bandsIn_63 (by decide) ?_
            refine x_ixor F dX7_bandsIn_64 ?_
            refine x_iand F dX7_bandsIn_65 ?_
            obtain ⟨M66, c66, h⟩ := bdS h
            refine x_tI F c66 dX7_bandsIn_66 ?_
            refine x_goto F (tgt := 162) dX7_bandsIn_67 (by decide) ?_
            refine x_iinc F (v := v4 + 1) (lv' := [(4, .int (v4 + 1)), (5, .int x32), (0, .ref (b + v0)), (1, .ref (b + v1)), (2, .int v2), (3, .int v3)]) dX7_bandsIn_162 5 rfl rfl (by decide) rfl ?_
            refine x_goto F (tgt := 17) dX7_bandsIn_165 (by decide) ?_
            refine x_sub [2, 3, 4, 5, 0] rfl ?_
            exact ih v3 (v4 + 1) M66 o h hE
  obtain ⟨o17, h17, h⟩ := bdS h
  refine x_sub [3, 4, 2, 1, 0] rfl ?_
  refine L17 v0 v1 ((1 <<< (x5 &&& 31)) - 1) N 0 0 M o17 h17 (fun w3_17 M17 e => ?_)
  · subst e
    dsimp only at h
    refine x_iload_n F dX7_bandsIn_168 rfl 1 rfl ?_
    refine x_if_le F (tgt := 181) dX7_bandsIn_169 (by decide) (fun c169 => ?_) (fun c169 => ?_)
    · rw [if_pos c169] at h
      refine x_iconst F (v := 0) dX7_bandsIn_181 (by decide) ?_
      obtain ⟨rfl, rfl⟩ := retS h
      exact x_iret F hr hl dX7_bandsIn_182
    · rw [if_neg c169] at h
      refine x_aload_n F dX7_bandsIn_172 rfl 0 rfl ?_
      obtain ⟨x173, c173, h⟩ := bdS h
      refine x_getR F (ci := 7) (C := RX7) (T := TX7) (N := 7) rfl ⟨by decide, rfl⟩ inU7 4 (by decide) (fun _ _ _ => rfl) wl_410 c173 dX7_bandsIn_173 ?_
      refine x_iconst F (v := 0) dX7_bandsIn_176 (by decide) ?_
      obtain ⟨x177, c177, h⟩ := bdS h
      refine x_aI F c177 dX7_bandsIn_177 ?_
      refine x_goto F (tgt := 182) dX7_bandsIn_178 (by decide) ?_
      obtain ⟨rfl, rfl⟩ := retS h
      exact x_iret F hr hl dX7_bandsIn_182
theorem dX8_copyFrom_0 : decode cX8_copyFrom 0 = .ok (.aload_n 0, 1) := by decide +kernel
theorem dX8_copyFrom_1 : decode cX8_copyFrom 1 = .ok (.aload_n 1, 1) := by decide +kernel
theorem dX8_copyFrom_2 : decode cX8_copyFrom 2 = .ok (.getfield 9, 3) := by decide +kernel
theorem dX8_copyFrom_5 : decode cX8_copyFrom 5 = .ok (.putfield 9, 3) := by decide +kernel
theorem dX8_copyFrom_8 : decode cX8_copyFrom 8 = .ok (.aload_n 0, 1) := by decide +kernel
theorem dX8_copyFrom_9 : decode cX8_copyFrom 9 = .ok (.aload_n 1, 1) := by decide +kernel
theorem dX8_copyFrom_10 : decode cX8_copyFrom 10 = .ok (.getfield 26, 3) := by decide +kernel
theorem dX8_copyFrom_13 : decode cX8_copyFrom 13 = .ok (.putfield 26, 3) := by decide +kernel
theorem dX8_copyFrom_16 : decode cX8_copyFrom 16 = .ok (.aload_n 0, 1) := by decide +kernel
theorem dX8_copyFrom_17 : decode cX8_copyFrom 17 = .ok (.aload_n 1, 1) := by decide +kernel
theorem dX8_copyFrom_18 : decode cX8_copyFrom 18 = .ok (.getfield 32, 3) := by decide +kernel
theorem dX8_copyFrom_21 : decode cX8_copyFrom 21 = .ok (.putfield 32, 3) := by decide +kernel
theorem dX8_copyFrom_24 : decode cX8_copyFrom 24 = .ok (.aload_n 0, 1) := by decide +kernel
theorem dX8_copyFrom_25 : decode cX8_copyFrom 25 = .ok (.aload_n 1, 1) := by decide +kernel
theorem dX8_copyFrom_26 : decode cX8_copyFrom 26 = .ok (.getfield 41, 3) := by decide +kernel
theorem dX8_copyFrom_29 : decode cX8_copyFrom 29 = .ok (.putfield 41, 3) := by decide +kernel
theorem dX8_copyFrom_32 : decode cX8_copyFrom 32 = .ok (.aload_n 0, 1) := by decide +kernel
theorem dX8_copyFrom_33 : decode cX8_copyFrom 33 = .ok (.aload_n 1, 1) := by decide +kernel
theorem dX8_copyFrom_34 : decode cX8_copyFrom 34 = .ok (.getfield 56, 3) := by decide +kernel
theorem dX8_copyFrom_37 : decode cX8_copyFrom 37 = .ok (.putfield 56, 3) := by decide +kernel
theorem dX8_copyFrom_40 : decode cX8_copyFrom 40 = .ok (.aload_n 0, 1) := by decide +kernel
theorem dX8_copyFrom_41 : decode cX8_copyFrom 41 = .ok (.aload_n 1, 1) := by decide +kernel
theorem dX8_copyFrom_42 : decode cX8_copyFrom 42 = .ok (.getfield 59, 3) := by decide +kernel
theorem dX8_copyFrom_45 : decode cX8_copyFrom 45 = .ok (.putfield 59, 3) := by decide +kernel
theorem dX8_copyFrom_48 : decode cX8_copyFrom 48 = .ok (.aload_n 0, 1) := by decide +kernel
theorem dX8_copyFrom_49 : decode cX8_copyFrom 49 = .ok (.aload_n 1, 1) := by decide +kernel
theorem dX8_copyFrom_50 : decode cX8_copyFrom 50 = .ok (.getfield 63, 3) := by decide +kernel
theorem dX8_copyFrom_53 : decode cX8_copyFrom 53 = .ok (.putfield 63, 3) := by decide +kernel
theorem dX8_copyFrom_56 : decode cX8_copyFrom 56 = .ok (.aload_n 1, 1) := by decide +kernel
theorem dX8_copyFrom_57 : decode cX8_copyFrom 57 = .ok (.getfield 15, 3) := by decide +kernel
theorem dX8_copyFrom_60 : decode cX8_copyFrom 60 = .ok (.iconst 0, 1) := by decide +kernel
theorem dX8_copyFrom_61 : decode cX8_copyFrom 61 = .ok (.aload_n 0, 1) := by decide +kernel
theorem dX8_copyFrom_62 : decode cX8_copyFrom 62 = .ok (.getfield 15, 3) := by decide +kernel
theorem dX8_copyFrom_65 : decode cX8_copyFrom 65 = .ok (.iconst 0, 1) := by decide +kernel
theorem dX8_copyFrom_66 : decode cX8_copyFrom 66 = .ok (.bipush 6, 2) := by decide +kernel
theorem dX8_copyFrom_68 : decode cX8_copyFrom 68 = .ok (.invokestatic 66, 3) := by decide +kernel
theorem dX8_copyFrom_71 : decode cX8_copyFrom 71 = .ok (.aload_n 1, 1) := by decide +kernel
theorem dX8_copyFrom_72 : decode cX8_copyFrom 72 = .ok (.getfield 19, 3) := by decide +kernel
theorem dX8_copyFrom_75 : decode cX8_copyFrom 75 = .ok (.iconst 0, 1) := by decide +kernel
theorem dX8_copyFrom_76 : decode cX8_copyFrom 76 = .ok (.aload_n 0, 1) := by decide +kernel
theorem dX8_copyFrom_77 : decode cX8_copyFrom 77 = .ok (.getfield 19, 3) := by decide +kernel
theorem dX8_copyFrom_80 : decode cX8_copyFrom 80 = .ok (.iconst 0, 1) := by decide +kernel
theorem dX8_copyFrom_81 : decode cX8_copyFrom 81 = .ok (.bipush 6, 2) := by decide +kernel
theorem dX8_copyFrom_83 : decode cX8_copyFrom 83 = .ok (.invokestatic 66, 3) := by decide +kernel
theorem dX8_copyFrom_86 : decode cX8_copyFrom 86 = .ok (.aload_n 1, 1) := by decide +kernel
theorem dX8_copyFrom_87 : decode cX8_copyFrom 87 = .ok (.getfield 23, 3) := by decide +kernel
theorem dX8_copyFrom_90 : decode cX8_copyFrom 90 = .ok (.iconst 0, 1) := by decide +kernel
theorem dX8_copyFrom_91 : decode cX8_copyFrom 91 = .ok (.aload_n 0, 1) := by decide +kernel
theorem dX8_copyFrom_92 : decode cX8_copyFrom 92 = .ok (.getfield 23, 3) := by decide +kernel
theorem dX8_copyFrom_95 : decode cX8_copyFrom 95 = .ok (.iconst 0, 1) := by decide +kernel
theorem dX8_copyFrom_96 : decode cX8_copyFrom 96 = .ok (.bipush 6, 2) := by decide +kernel
theorem dX8_copyFrom_98 : decode cX8_copyFrom 98 = .ok (.invokestatic 66, 3) := by decide +kernel
theorem dX8_copyFrom_101 : decode cX8_copyFrom 101 = .ok (.aload_n 1, 1) := by decide +kernel
theorem dX8_copyFrom_102 : decode cX8_copyFrom 102 = .ok (.getfield 29, 3) := by decide +kernel
theorem dX8_copyFrom_105 : decode cX8_copyFrom 105 = .ok (.iconst 0, 1) := by decide +kernel
theorem dX8_copyFrom_106 : decode cX8_copyFrom 106 = .ok (.aload_n 0, 1) := by decide +kernel
theorem dX8_copyFrom_107 : decode cX8_copyFrom 107 = .ok (.getfield 29, 3) := by decide +kernel
theorem dX8_copyFrom_110 : decode cX8_copyFrom 110 = .ok (.iconst 0, 1) := by decide +kernel
theorem dX8_copyFrom_111 : decode cX8_copyFrom 111 = .ok (.bipush 8, 2) := by decide +kernel
theorem dX8_copyFrom_113 : decode cX8_copyFrom 113 = .ok (.invokestatic 66, 3) := by decide +kernel
theorem dX8_copyFrom_116 : decode cX8_copyFrom 116 = .ok (.aload_n 1, 1) := by decide +kernel
theorem dX8_copyFrom_117 : decode cX8_copyFrom 117 = .ok (.getfield 35, 3) := by decide +kernel
theorem dX8_copyFrom_120 : decode cX8_copyFrom 120 = .ok (.iconst 0, 1) := by decide +kernel
theorem dX8_copyFrom_121 : decode cX8_copyFrom 121 = .ok (.aload_n 0, 1) := by decide +kernel
theorem dX8_copyFrom_122 : decode cX8_copyFrom 122 = .ok (.getfield 35, 3) := by decide +kernel
theorem dX8_copyFrom_125 : decode cX8_copyFrom 125 = .ok (.iconst 0, 1) := by decide +kernel
theorem dX8_copyFrom_126 : decode cX8_copyFrom 126 = .ok (.iconst 4, 1) := by decide +kernel
theorem dX8_copyFrom_127 : decode cX8_copyFrom 127 = .ok (.invokestatic 66, 3) := by decide +kernel
theorem dX8_copyFrom_130 : decode cX8_copyFrom 130 = .ok (.aload_n 1, 1) := by decide +kernel
theorem dX8_copyFrom_131 : decode cX8_copyFrom 131 = .ok (.getfield 38, 3) := by decide +kernel
theorem dX8_copyFrom_134 : decode cX8_copyFrom 134 = .ok (.iconst 0, 1) := by decide +kernel
theorem dX8_copyFrom_135 : decode cX8_copyFrom 135 = .ok (.aload_n 0, 1) := by decide +kernel
theorem dX8_copyFrom_136 : decode cX8_copyFrom 136 = .ok (.getfield 38, 3) := by decide +kernel
theorem dX8_copyFrom_139 : decode cX8_copyFrom 139 = .ok (.iconst 0, 1) := by decide +kernel
theorem dX8_copyFrom_140 : decode cX8_copyFrom 140 = .ok (.iconst 4, 1) := by decide +kernel
theorem dX8_copyFrom_141 : decode cX8_copyFrom 141 = .ok (.invokestatic 66, 3) := by decide +kernel
theorem dX8_copyFrom_144 : decode cX8_copyFrom 144 = .ok (.aload_n 1, 1) := by decide +kernel
theorem dX8_copyFrom_145 : decode cX8_copyFrom 145 = .ok (.getfield 44, 3) := by decide +kernel
theorem dX8_copyFrom_148 : decode cX8_copyFrom 148 = .ok (.iconst 0, 1) := by decide +kernel
theorem dX8_copyFrom_149 : decode cX8_copyFrom 149 = .ok (.aload_n 0, 1) := by decide +kernel
theorem dX8_copyFrom_150 : decode cX8_copyFrom 150 = .ok (.getfield 44, 3) := by decide +kernel
theorem dX8_copyFrom_153 : decode cX8_copyFrom 153 = .ok (.iconst 0, 1) := by decide +kernel
theorem dX8_copyFrom_154 : decode cX8_copyFrom 154 = .ok (.bipush 6, 2) := by decide +kernel
theorem dX8_copyFrom_156 : decode cX8_copyFrom 156 = .ok (.invokestatic 66, 3) := by decide +kernel
theorem dX8_copyFrom_159 : decode cX8_copyFrom 159 = .ok (.aload_n 1, 1) := by decide +kernel
theorem dX8_copyFrom_160 : decode cX8_copyFrom 160 = .ok (.getfield 47, 3) := by decide +kernel
theorem dX8_copyFrom_163 : decode cX8_copyFrom 163 = .ok (.iconst 0, 1) := by decide +kernel
theorem dX8_copyFrom_164 : decode cX8_copyFrom 164 = .ok (.aload_n 0, 1) := by decide +kernel
theorem dX8_copyFrom_165 : decode cX8_copyFrom 165 = .ok (.getfield 47, 3) := by decide +kernel
theorem dX8_copyFrom_168 : decode cX8_copyFrom 168 = .ok (.iconst 0, 1) := by decide +kernel
theorem dX8_copyFrom_169 : decode cX8_copyFrom 169 = .ok (.bipush 6, 2) := by decide +kernel
theorem dX8_copyFrom_171 : decode cX8_copyFrom 171 = .ok (.invokestatic 66, 3) := by decide +kernel
theorem dX8_copyFrom_174 : decode cX8_copyFrom 174 = .ok (.aload_n 1, 1) := by decide +kernel
theorem dX8_copyFrom_175 : decode cX8_copyFrom 175 = .ok (.getfield 50, 3) := by decide +kernel
theorem dX8_copyFrom_178 : decode cX8_copyFrom 178 = .ok (.iconst 0, 1) := by decide +kernel
theorem dX8_copyFrom_179 : decode cX8_copyFrom 179 = .ok (.aload_n 0, 1) := by decide +kernel
theorem dX8_copyFrom_180 : decode cX8_copyFrom 180 = .ok (.getfield 50, 3) := by decide +kernel
theorem dX8_copyFrom_183 : decode cX8_copyFrom 183 = .ok (.iconst 0, 1) := by decide +kernel
theorem dX8_copyFrom_184 : decode cX8_copyFrom 184 = .ok (.bipush 6, 2) := by decide +kernel
theorem dX8_copyFrom_186 : decode cX8_copyFrom 186 = .ok (.invokestatic 66, 3) := by decide +kernel
theorem dX8_copyFrom_189 : decode cX8_copyFrom 189 = .ok (.aload_n 1, 1) := by decide +kernel
theorem dX8_copyFrom_190 : decode cX8_copyFrom 190 = .ok (.getfield 53, 3) := by decide +kernel
theorem dX8_copyFrom_193 : decode cX8_copyFrom 193 = .ok (.iconst 0, 1) := by decide +kernel
theorem dX8_copyFrom_194 : decode cX8_copyFrom 194 = .ok (.aload_n 0, 1) := by decide +kernel
theorem dX8_copyFrom_195 : decode cX8_copyFrom 195 = .ok (.getfield 53, 3) := by decide +kernel
theorem dX8_copyFrom_198 : decode cX8_copyFrom 198 = .ok (.iconst 0, 1) := by decide +kernel
theorem dX8_copyFrom_199 : decode cX8_copyFrom 199 = .ok (.aload_n 0, 1) := by decide +kernel
theorem dX8_copyFrom_200 : decode cX8_copyFrom 200 = .ok (.getfield 53, 3) := by decide +kernel
theorem dX8_copyFrom_203 : decode cX8_copyFrom 203 = .ok (.arraylength, 1) := by decide +kernel
theorem dX8_copyFrom_204 : decode cX8_copyFrom 204 = .ok (.invokestatic 66, 3) := by decide +kernel
theorem dX8_copyFrom_207 : decode cX8_copyFrom 207 = .ok (.return_, 1) := by decide +kernel
def fX8_copyFrom (N : Nat) (v0 : Nat) (v1 : Nat) (M : Mem) : Option (Unit × Mem) := ((fI M 8 v1 0).bind fun x2 => ((pI M 8 v0 0 x2).bind fun M5 => ((fI M5 8 v1 4).bind fun x10 => ((pI M5 8 v0 4 x10).bind fun M13 => ((fI M13 8 v1 6).bind fun x18 => ((pI M13 8 v0 6 x18).bind fun M21 => ((fI M21 8 v1 9).bind fun x26 => ((pI M21 8 v0 9 x26).bind fun M29 => ((fI M29 8 v1 14).bind fun x34 => ((pI M29 8 v0 14 x34).bind fun M37 => ((fI M37 8 v1 15).bind fun x42 => ((pZ M37 8 v0 15 x42).bind fun M45 => ((fI M45 8 v1 16).bind fun x50 => ((pI M45 8 v0 16 x50).bind fun M53 => ((fR M53 8 v1 1).bind fun x57 => ((fR M53 8 v0 1).bind fun x62 => ((cL M53 x57 0 x62 0 6).bind fun M68 => ((fR M68 8 v1 2).bind fun x72 => ((fR M68 8 v0 2).bind fun x77 => ((cI M68 x72 0 x77 0 6).bind fun M83 => ((fR M83 8 v1 3).bind fun x87 => ((fR M83 8 v0 3).bind fun x92 => ((cI M83 x87 0 x92 0 6).bind fun M98 => ((fR M98 8 v1 5).bind fun x102 => ((fR M98 8 v0 5).bind fun x107 => ((cI M98 x102 0 x107 0 8).bind fun M113 => ((fR M113 8 v1 7).bind fun x117 => ((fR M113 8 v0 7).bind fun x122 => ((cL M113 x117 0 x122 0 4).bind fun M127 => ((fR M127 8 v1 8).bind fun x131 => ((fR M127 8 v0 8).bind fun x136 => ((cI M127 x131 0 x136 0 4).bind fun M141 => ((fR M141 8 v1 10).bind fun x145 => ((fR M141 8 v0 10).bind fun x150 => ((cL M141 x145 0 x150 0 6).bind fun M156 => ((fR M156 8 v1 11).bind fun x160 => ((fR M156 8 v0 11).bind fun x165 => ((cI M156 x160 0 x165 0 6).bind fun M171 => ((fR M171 8 v1 12).bind fun x175 => ((fR M171 8 v0 12).bind fun x180 => ((cI M171 x175 0 x180 0 6).bind fun M186 => ((fR M186 8 v1 13).bind fun x190 => ((fR M186 8 v0 13).bind fun x195 => ((fR M186 8 v0 13).bind fun x200 => ((nA M186 x200).bind fun x203 => ((cI M186 x190 0 x195 0 x203).bind fun M204 => some ((), M204)))))))))))))))))))))))))))))))))))))))))))))))
set_option maxHeartbeats 4000000 in
set_option maxRecDepth 100000 in
theorem k_X8_copyFrom (l : Launch) (b : Nat) (D : va_G) (cy : Nat → ClassId) (N : Nat) (v0 : Nat) (v1 : Nat) (M : Mem) (r : Unit) (Mf : Mem) (h : fX8_copyFrom N v0 v1 M = some (r, Mf)) : Ct l yX8_copyFrom cX8_copyFrom 2 none 1 0 0 b D cy [.ref (b + v0), .ref (b + v1)] M none Mf := by
  refine Ct_of (own := RX8) (by decide) rfl (Nat.le_of_ble_eq_true rfl) ?_
  intro p e s m args below meth c F hr hl hmn
  unfold fX8_copyFrom at h
  show X p l e ({ frames := 1, cells := 0, slots := 0, locals := 100 * 1 }) s m args below meth c (MQ below (Qm b D cy none Mf) args s 0 0 (fun q => b ≤ q)) 2 b D cy 0 0 M 0 [(0, .ref (b + v0)), (1, .ref (b + v1))] []
  refine x_aload_n F dX8_copyFrom_0 rfl 0 rfl ?_
  refine x_aload_n F dX8_copyFrom_1 rfl 1 rfl ?_
  obtain ⟨x2, c2, h⟩ := bdS h
  refine x_getI F (ci := 8) (C := RX8) (T := TX8) (N := 17) rfl ⟨by decide, rfl⟩ inU8 0 (by decide) (fun _ _ _ => rfl) wl_238 c2 dX8_copyFrom_2 ?_
  obtain ⟨M5, c5, h⟩ := bdS h
  refine x_putI F (ci := 8) (C := RX8) (T := TX8) (N := 17) rfl ⟨by decide, rfl⟩ inU8 tyX8_ok nmX8 0 (by decide) rfl rfl wl_238 c5 dX8_copyFrom_5 ?_
  refine x_aload_n F dX8_copyFrom_8 rfl 0 rfl ?_
  refine x_aload_n F dX8_copyFrom_9 rfl 1 rfl ?_
  obtain ⟨x10, c10, h⟩ := bdS h
  refine x_getI F (ci := 8) (C := RX8) (T := TX8) (N := 17) rfl ⟨by decide, rfl⟩ inU8 4 (by decide) (fun _ _ _ => rfl) wl_37 c10 dX8_copyFrom_10 ?_
  obtain ⟨M13, c13, h⟩ := bdS h
  refine x_putI F (ci := 8) (C := RX8) (T := TX8) (N := 17) rfl ⟨by decide, rfl⟩ inU8 tyX8_ok nmX8 4 (by decide) rfl rfl wl_37 c13 dX8_copyFrom_13 ?_
  refine x_aload_n F dX8_copyFrom_16 rfl 0 rfl ?_
  refine x_aload_n F dX8_copyFrom_17 rfl 1 rfl ?_
  obtain ⟨x18, c18, h⟩ := bdS h
  refine x_getI F (ci := 8) (C := RX8) (T := TX8) (N := 17) rfl ⟨by decide, rfl⟩ inU8 6 (by decide) (fun _ _ _ => rfl) wl_488 c18 dX8_copyFrom_18 ?_
  obtain ⟨M21, c21, h⟩ := bdS h
  refine x_putI F (ci := 8) (C := RX8) (T := TX8) (N := 17) rfl ⟨by decide, rfl⟩ inU8 tyX8_ok nmX8 6 (by decide) rfl rfl wl_488 c21 dX8_copyFrom_21 ?_
  refine x_aload_n F dX8_copyFrom_24 rfl 0 rfl ?_
  refine x_aload_n F dX8_copyFrom_25 rfl 1 rfl ?_
  obtain ⟨x26, c26, h⟩ := bdS h
  refine x_getI F (ci := 8) (C := RX8) (T := TX8) (N := 17) rfl ⟨by decide, rfl⟩ inU8 9 (by decide) (fun _ _ _ => rfl) wl_110 c26 dX8_copyFrom_26 ?_
  obtain ⟨M29, c29, h⟩ := bdS h
  refine x_putI F (ci := 8) (C := RX8) (T := TX8) (N := 17) rfl ⟨by decide, rfl⟩ inU8 tyX8_ok nmX8 9 (by decide) rfl rfl wl_110 c29 dX8_copyFrom_29 ?_
  refine x_aload_n F dX8_copyFrom_32 rfl 0 rfl ?_
  refine x_aload_n F dX8_copyFrom_33 rfl 1 rfl ?_
  obtain ⟨x34, c34, h⟩ := bdS h
  refine x_getI F (ci := 8) (C := RX8) (T := TX8) (N := 17) rfl ⟨by decide, rfl⟩ inU8 14 (by decide) (fun _ _ _ => rfl) wl_493 c34 dX8_copyFrom_34 ?_
  obtain ⟨M37, c37, h⟩ := bdS h
  refine x_putI F (ci := 8) (C := RX8) (T := TX8) (N := 17) rfl ⟨by decide, rfl⟩ inU8 tyX8_ok nmX8 14 (by decide) rfl rfl wl_493 c37 dX8_copyFrom_37 ?_
  refine x_aload_n F dX8_copyFrom_40 rfl 0 rfl ?_
  refine x_aload_n F dX8_copyFrom_41 rfl 1 rfl ?_
  obtain ⟨x42, c42, h⟩ := bdS h
  refine x_getI F (ci := 8) (C := RX8) (T := TX8) (N := 17) rfl ⟨by decide, rfl⟩ inU8 15 (by decide) (fun _ _ _ => rfl) wl_494 c42 dX8_copyFrom_42 ?_
  obtain ⟨M45, c45, h⟩ := bdS h
  refine x_putZ F (ci := 8) (C := RX8) (T := TX8) (N := 17) rfl ⟨by decide, rfl⟩ inU8 tyX8_ok nmX8 15 (by decide) rfl rfl wl_494 c45 dX8_copyFrom_45 ?_
  refine x_aload_n F dX8_copyFrom_48 rfl 0 rfl ?_
  refine x_aload_n F dX8_copyFrom_49 rfl 1 rfl ?_
  obtain ⟨x50, c50, h⟩ := bdS h
  refine x_getI F (ci := 8) (C := RX8) (T := TX8) (N := 17) rfl ⟨by decide, rfl⟩ inU8 16 (by decide) (fun _ _ _ => rfl) wl_495 c50 dX8_copyFrom_50 ?_
  obtain ⟨M53, c53, h⟩ := bdS h
  refine x_putI F (ci := 8) (C := RX8) (T := TX8) (N := 17) rfl ⟨by decide, rfl⟩ inU8 tyX8_ok nmX8 16 (by decide) rfl rfl wl_495 c53 dX8_copyFrom_53 ?_
  refine x_aload_n F dX8_copyFrom_56 rfl 1 rfl ?_
  obtain ⟨x57, c57, h⟩ := bdS h
  refine x_getR F (ci := 8) (C := RX8) (T := TX8) (N := 17) rfl ⟨by decide, rfl⟩ inU8 1 (by decide) (fun _ _ _ => rfl) wl_486 c57 dX8_copyFrom_57 ?_
  refine x_iconst F (v := 0) dX8_copyFrom_60 (by decide) ?_
  refine x_aload_n F dX8_copyFrom_61 rfl 0 rfl ?_
  obtain ⟨x62, c62, h⟩ := bdS h
  refine x_getR F (ci := 8) (C := RX8) (T := TX8) (N := 17) rfl ⟨by decide, rfl⟩ inU8 1 (by decide) (fun _ _ _ => rfl) wl_486 c62 dX8_copyFrom_62 ?_
  refine x_iconst F (v := 0) dX8_copyFrom_65 (by decide) ?_
  refine x_bipush F (v := 6) dX8_copyFrom_66 (by decide) ?_
  obtain ⟨M68, c68, h⟩ := bdS h
  refine x_cL F wl_497 wl_24 wl_25 wl_26 (Nat.le_of_ble_eq_true rfl) (by decide +kernel) c68 dX8_copyFrom_68 ?_
  refine x_aload_n F dX8_copyFrom_71 rfl 1 rfl ?_
  obtain ⟨x72, c72, h⟩ := bdS h
  refine x_getR F (ci := 8) (C := RX8) (T := TX8) (N := 17) rfl ⟨by decide, rfl⟩ inU8 2 (by decide) (fun _ _ _ => rfl) wl_487 c72 dX8_copyFrom_72 ?_
  refine x_iconst F (v := 0) dX8_copyFrom_75 (by decide) ?_
  refine x_aload_n F dX8_copyFrom_76 rfl 0 rfl ?_
  obtain ⟨x77, c77, h⟩ := bdS h
  refine x_getR F (ci := 8) (C := RX8) (T := TX8) (N := 17) rfl ⟨by decide, rfl⟩ inU8 2 (by decide) (fun _ _ _ => rfl) wl_487 c77 dX8_copyFrom_77 ?_
  refine x_iconst F (v := 0) dX8_copyFrom_80 (by decide) ?_
  refine x_bipush F (v := 6) dX8_copyFrom_81 (by decide) ?_
  obtain ⟨M83, c83, h⟩ := bdS h
  refine x_cI F wl_497 wl_24 wl_25 wl_26 (Nat.le_of_ble_eq_true rfl) (by decide +kernel) c83 dX8_copyFrom_83 ?_
  refine x_aload_n F dX8_copyFrom_86 rfl 1 rfl ?_
  obtain ⟨x87, c87, h⟩ := bdS h
  refine x_getR F (ci := 8) (C := RX8) (T := TX8) (N := 17) rfl ⟨by decide, rfl⟩ inU8 3 (by decide) (fun _ _ _ => rfl) wl_240 c87 dX8_copyFrom_87 ?_
  refine x_iconst F (v := 0) dX8_copyFrom_90 (by decide) ?_
  refine x_aload_n F dX8_copyFrom_91 rfl 0 rfl ?_
  obtain ⟨x92, c92, h⟩ := bdS h
  refine x_getR F (ci := 8) (C := RX8) (T := TX8) (N := 17) rfl ⟨by decide, rfl⟩ inU8 3 (by decide) (fun _ _ _ => rfl) wl_240 c92 dX8_copyFrom_92 ?_
  refine x_iconst F (v := 0) dX8_copyFrom_95 (by decide) ?_
  refine x_bipush F (v := 6) dX8_copyFrom_96 (by decide) ?_
  obtain ⟨M98, c98, h⟩ := bdS h
  refine x_cI F wl_497 wl_24 wl_25 wl_26 (Nat.le_of_ble_eq_true rfl) (by decide +kernel) c98 dX8_copyFrom_98 ?_
  refine x_aload_n F dX8_copyFrom_101 rfl 1 rfl ?_
  obtain ⟨x102, c102, h⟩ := bdS h
  refine x_getR F (ci := 8) (C := RX8) (T := TX8) (N := 17) rfl ⟨by decide, rfl⟩ inU8 5 (by decide) (fun _ _ _ => rfl) wl_38 c102 dX8_copyFrom_102 ?_
  refine x_iconst F (v := 0) dX8_copyFrom_105 (by decide) ?_
  refine x_aload_n F dX8_copyFrom_106 rfl 0 rfl ?_
  obtain ⟨x107, c107, h⟩ := bdS h
  refine x_getR F (ci := 8) (C := RX8) (T := TX8) (N := 17) rfl ⟨by decide, rfl⟩ inU8 5 (by decide) (fun _ _ _ => rfl) wl_38 c107 dX8_copyFrom_107 ?_
  refine x_iconst F (v := 0) dX8_copyFrom_110 (by decide) ?_
  refine x_bipush F (v := 8) dX8_copyFrom_111 (by decide) ?_
  obtain ⟨M113, c113, h⟩ := bdS h
  refine x_cI F wl_497 wl_24 wl_25 wl_26 (Nat.le_of_ble_eq_true rfl) (by decide +kernel) c113 dX8_copyFrom_113 ?_
  refine x_aload_n F dX8_copyFrom_116 rfl 1 rfl ?_
  obtain ⟨x117, c117, h⟩ := bdS h
  refine x_getR F (ci := 8) (C := RX8) (T := TX8) (N := 17) rfl ⟨by decide, rfl⟩ inU8 7 (by decide) (fun _ _ _ => rfl) wl_489 c117 dX8_copyFrom_117 ?_
  refine x_iconst F (v := 0) dX8_copyFrom_120 (by decide) ?_
  refine x_aload_n F dX8_copyFrom_121 rfl 0 rfl ?_
  obtain ⟨x122, c122, h⟩ := bdS h
  refine x_getR F (ci := 8) (C := RX8) (T := TX8) (N := 17) rfl ⟨by decide, rfl⟩ inU8 7 (by decide) (fun _ _ _ => rfl) wl_489 c122 dX8_copyFrom_122 ?_
  refine x_iconst F (v := 0) dX8_copyFrom_125 (by decide) ?_
  refine x_iconst F (v := 4) dX8_copyFrom_126 (by decide) ?_
  obtain ⟨M127, c127, h⟩ := bdS h
  refine x_cL F wl_497 wl_24 wl_25 wl_26 (Nat.le_of_ble_eq_true rfl) (by decide +kernel) c127 dX8_copyFrom_127 ?_
  refine x_aload_n F dX8_copyFrom_130 rfl 1 rfl ?_
  obtain ⟨x131, c131, h⟩ := bdS h
  refine x_getR F (ci := 8) (C := RX8) (T := TX8) (N := 17) rfl ⟨by decide, rfl⟩ inU8 8 (by decide) (fun _ _ _ => rfl) wl_490 c131 dX8_copyFrom_131 ?_
  refine x_iconst F (v := 0) dX8_copyFrom_134 (by decide) ?_
  refine x_aload_n F dX8_copyFrom_135 rfl 0 rfl ?_
  obtain ⟨x136, c136, h⟩ := bdS h
  refine x_getR F (ci := 8) (C := RX8) (T := TX8) (N := 17) rfl ⟨by decide, rfl⟩ inU8 8 (by decide) (fun _ _ _ => rfl) wl_490 c136 dX8_copyFrom_136 ?_
  refine x_iconst F (v := 0) dX8_copyFrom_139 (by decide) ?_
  refine x_iconst F (v := 4) dX8_copyFrom_140 (by decide) ?_
  obtain ⟨M141, c141, h⟩ := bdS h
  refine x_cI F wl_497 wl_24 wl_25 wl_26 (Nat.le_of_ble_eq_true rfl) (by decide +kernel) c141 dX8_copyFrom_141 ?_
  refine x_aload_n F dX8_copyFrom_144 rfl 1 rfl ?_
  obtain ⟨x145, c145, h⟩ := bdS h
  refine x_getR F (ci := 8) (C := RX8) (T := TX8) (N := 17) rfl ⟨by decide, rfl⟩ inU8 10 (by decide) (fun _ _ _ => rfl) wl_491 c145 dX8_copyFrom_145 ?_
  refine x_iconst F (v := 0) dX8_copyFrom_148 (by decide) ?_
  refine x_aload_n F dX8_copyFrom_149 rfl 0 rfl ?_
  obtain ⟨x150, c150, h⟩ := bdS h
  refine x_getR F (ci := 8) (C := RX8) (T := TX8) (N := 17) rfl ⟨by decide, rfl⟩ inU8 10 (by decide) (fun _ _ _ => rfl) wl_491 c150 dX8_copyFrom_150 ?_
  refine x_iconst F (v := 0) dX8_copyFrom_153 (by decide) ?_
  refine x_bipush F (v := 6) dX8_copyFrom_154 (by decide) ?_
  obtain ⟨M156, c156, h⟩ := bdS h
  refine x_cL F wl_497 wl_24 wl_25 wl_26 (Nat.le_of_ble_eq_true rfl) (by decide +kernel) c156 dX8_copyFrom_156 ?_
  refine x_aload_n F dX8_copyFrom_159 rfl 1 rfl ?_
  obtain ⟨x160, c160, h⟩ := bdS h
  refine x_getR F (ci := 8) (C := RX8) (T := TX8) (N := 17) rfl ⟨by decide, rfl⟩ inU8 11 (by decide) (fun _ _ _ => rfl) wl_492 c160 dX8_copyFrom_160 ?_
  refine x_iconst F (v := 0) dX8_copyFrom_163 (by decide) ?_
  refine x_aload_n F dX8_copyFrom_164 rfl 0 rfl ?_
  obtain ⟨x165, c165, h⟩ := bdS h
  refine x_getR F (ci := 8) (C := RX8) (T := TX8) (N := 17) rfl ⟨by decide, rfl⟩ inU8 11 (by decide) (fun _ _ _ => rfl) wl_492 c165 dX8_copyFrom_165 ?_
  refine x_iconst F (v := 0) dX8_copyFrom_168 (by decide) ?_
  refine x_bipush F (v := 6) dX8_copyFrom_169 (by decide) ?_
  obtain ⟨M171, c171, h⟩ := bdS h
  refine x_cI F wl_497 wl_24 wl_25 wl_26 (Nat.le_of_ble_eq_true rfl) (by decide +kernel) c171 dX8_copyFrom_171 ?_
  refine x_aload_n F dX8_copyFrom_174 rfl 1 rfl ?_
  obtain ⟨x175, c175, h⟩ := bdS h
  refine x_getR F (ci := 8) (C := RX8) (T := TX8) (N := 17) rfl ⟨by decide, rfl⟩ inU8 12 (by decide) (fun _ _ _ => rfl) wl_101 c175 dX8_copyFrom_175 ?_
  refine x_iconst F (v := 0) dX8_copyFrom_178 (by decide) ?_
  refine x_aload_n F dX8_copyFrom_179 rfl 0 rfl ?_
  obtain ⟨x180, c180, h⟩ := bdS h
  refine x_getR F (ci := 8) (C := RX8) (T := TX8) (N := 17) rfl ⟨by decide, rfl⟩ inU8 12 (by decide) (fun _ _ _ => rfl) wl_101 c180 dX8_copyFrom_180 ?_
  refine x_iconst F (v := 0) dX8_copyFrom_183 (by decide) ?_
  refine x_bipush F (v := 6) dX8_copyFrom_184 (by decide) ?_
  obtain ⟨M186, c186, h⟩ := bdS h
  refine x_cI F wl_497 wl_24 wl_25 wl_26 (Nat.le_of_ble_eq_true rfl) (by decide +kernel) c186 dX8_copyFrom_186 ?_
  refine x_aload_n F dX8_copyFrom_189 rfl 1 rfl ?_
  obtain ⟨x190, c190, h⟩ := bdS h
  refine x_getR F (ci := 8) (C := RX8) (T := TX8) (N := 17) rfl ⟨by decide, rfl⟩ inU8 13 (by decide) (fun _ _ _ => rfl) wl_99 c190 dX8_copyFrom_190 ?_
  refine x_iconst F (v := 0) dX8_copyFrom_193 (by decide) ?_
  refine x_aload_n F dX8_copyFrom_194 rfl 0 rfl ?_
  obtain ⟨x195, c195, h⟩ := bdS h
  refine x_getR F (ci := 8) (C := RX8) (T := TX8) (N := 17) rfl ⟨by decide, rfl⟩ inU8 13 (by decide) (fun _ _ _ => rfl) wl_99 c195 dX8_copyFrom_195 ?_
  refine x_iconst F (v := 0) dX8_copyFrom_198 (by decide) ?_
  refine x_aload_n F dX8_copyFrom_199 rfl 0 rfl ?_
  obtain ⟨x200, c200, h⟩ := bdS h
  refine x_getR F (ci := 8) (C := RX8) (T := TX8) (N := 17) rfl ⟨by decide, rfl⟩ inU8 13 (by decide) (fun _ _ _ => rfl) wl_99 c200 dX8_copyFrom_200 ?_
  obtain ⟨x203, c203, h⟩ := bdS h
  refine x_nA F c203 dX8_copyFrom_203 ?_
  obtain ⟨M204, c204, h⟩ := bdS h
  refine x_cI F wl_497 wl_24 wl_25 wl_26 (Nat.le_of_ble_eq_true rfl) (by decide +kernel) c204 dX8_copyFrom_204 ?_
  obtain ⟨rfl, rfl⟩ := retS h
  exact x_vret F hr hl dX8_copyFrom_207
theorem dX8_isTold_0 : decode cX8_isTold 0 = .ok (.aload_n 0, 1) := by decide +kernel
theorem dX8_isTold_1 : decode cX8_isTold 1 = .ok (.getfield 15, 3) := by decide +kernel
theorem dX8_isTold_4 : decode cX8_isTold 4 = .ok (.aload_n 0, 1) := by decide +kernel
theorem dX8_isTold_5 : decode cX8_isTold 5 = .ok (.getfield 9, 3) := by decide +kernel
theorem dX8_isTold_8 : decode cX8_isTold 8 = .ok (.lload_n 1, 1) := by decide +kernel
theorem dX8_isTold_9 : decode cX8_isTold 9 = .ok (.invokestatic 146, 3) := by decide +kernel
theorem dX8_isTold_12 : decode cX8_isTold 12 = .ok (.iconst (-1), 1) := by decide +kernel
theorem dX8_isTold_13 : decode cX8_isTold 13 = .ok (.if_icmp .ne 35, 3) := by decide +kernel
theorem dX8_isTold_16 : decode cX8_isTold 16 = .ok (.aload_n 0, 1) := by decide +kernel
theorem dX8_isTold_17 : decode cX8_isTold 17 = .ok (.getfield 35, 3) := by decide +kernel
theorem dX8_isTold_20 : decode cX8_isTold 20 = .ok (.aload_n 0, 1) := by decide +kernel
theorem dX8_isTold_21 : decode cX8_isTold 21 = .ok (.getfield 32, 3) := by decide +kernel
theorem dX8_isTold_24 : decode cX8_isTold 24 = .ok (.lload_n 1, 1) := by decide +kernel
theorem dX8_isTold_25 : decode cX8_isTold 25 = .ok (.invokestatic 146, 3) := by decide +kernel
theorem dX8_isTold_28 : decode cX8_isTold 28 = .ok (.iconst (-1), 1) := by decide +kernel
theorem dX8_isTold_29 : decode cX8_isTold 29 = .ok (.if_icmp .ne 19, 3) := by decide +kernel
theorem dX8_isTold_32 : decode cX8_isTold 32 = .ok (.aload_n 0, 1) := by decide +kernel
theorem dX8_isTold_33 : decode cX8_isTold 33 = .ok (.getfield 44, 3) := by decide +kernel
theorem dX8_isTold_36 : decode cX8_isTold 36 = .ok (.aload_n 0, 1) := by decide +kernel
theorem dX8_isTold_37 : decode cX8_isTold 37 = .ok (.getfield 41, 3) := by decide +kernel
theorem dX8_isTold_40 : decode cX8_isTold 40 = .ok (.lload_n 1, 1) := by decide +kernel
theorem dX8_isTold_41 : decode cX8_isTold 41 = .ok (.invokestatic 146, 3) := by decide +kernel
theorem dX8_isTold_44 : decode cX8_isTold 44 = .ok (.iconst (-1), 1) := by decide +kernel
theorem dX8_isTold_45 : decode cX8_isTold 45 = .ok (.if_icmp .eq 7, 3) := by decide +kernel
theorem dX8_isTold_48 : decode cX8_isTold 48 = .ok (.iconst 1, 1) := by decide +kernel
theorem dX8_isTold_49 : decode cX8_isTold 49 = .ok (.goto 4, 3) := by decide +kernel
theorem dX8_isTold_52 : decode cX8_isTold 52 = .ok (.iconst 0, 1) := by decide +kernel
theorem dX8_isTold_53 : decode cX8_isTold 53 = .ok (.ireturn, 1) := by decide +kernel
def fX8_isTold (N : Nat) (v0 : Nat) (v1 : Int64) (M : Mem) : Option (Int32 × Mem) := ((fR M 8 v0 1).bind fun x1 => ((fI M 8 v0 0).bind fun x5 => ((fX8_indexOf N x1 x5 v1 M).bind fun (x9, M9) => (if x9 = ((-1)) then ((fR M9 8 v0 7).bind fun x17 => ((fI M9 8 v0 6).bind fun x21 => ((fX8_indexOf N x17 x21 v1 M9).bind fun (x25, M25) => (if x25 = ((-1)) then ((fR M25 8 v0 10).bind fun x33 => ((fI M25 8 v0 9).bind fun x37 => ((fX8_indexOf N x33 x37 v1 M25).bind fun (x41, M41) => (if x41 = ((-1)) then some (0, M41) else some (1, M41))))) else some (1, M25))))) else some (1, M9)))))
set_option maxHeartbeats 4000000 in
set_option maxRecDepth 100000 in
theorem k_X8_isTold (l : Launch) (b : Nat) (D : va_G) (cy : Nat → ClassId) (N : Nat) (v0 : Nat) (v1 : Int64) (M : Mem) (r : Int32) (Mf : Mem) (h : fX8_isTold N v0 v1 M = some (r, Mf)) : Ct l yX8_isTold cX8_isTold 3 (some .boolean) 2 0 0 b D cy [.ref (b + v0), .long v1] M (some (.int r)) Mf := by
  refine Ct_of (own := RX8) (by decide) rfl (Nat.le_of_ble_eq_true rfl) ?_
  intro p e s m args below meth c F hr hl hmn
  unfold fX8_isTold at h
  show X p l e ({ frames := 2, cells := 0, slots := 0, locals := 100 * 2 }) s m args below meth c (MQ below (Qm b D cy (some (.int r)) Mf) args s 0 0 (fun q => b ≤ q)) 3 b D cy 0 0 M 0 [(0, .ref (b + v0)), (1, .long v1)] []
  refine x_aload_n F dX8_isTold_0 rfl 0 rfl ?_
  obtain ⟨x1, c1, h⟩ := bdS h
  refine x_getR F (ci := 8) (C := RX8) (T := TX8) (N := 17) rfl ⟨by decide, rfl⟩ inU8 1 (by decide) (fun _ _ _ => rfl) wl_486 c1 dX8_isTold_1 ?_
  refine x_aload_n F dX8_isTold_4 rfl 0 rfl ?_
  obtain ⟨x5, c5, h⟩ := bdS h
  refine x_getI F (ci := 8) (C := RX8) (T := TX8) (N := 17) rfl ⟨by decide, rfl⟩ inU8 0 (by decide) (fun _ _ _ => rfl) wl_238 c5 dX8_isTold_5 ?_
  refine x_lload_n F dX8_isTold_8 rfl 1 rfl ?_
  obtain ⟨⟨x9, M9⟩, c9, h⟩ := bdS h
  dsimp only at h
  refine x_callS F (As := [.ref (b + x1), .int x5, .long v1]) (rest := []) (res := (some (.int x9))) (k_X8_indexOf l b D cy N x1 x5 v1 M _ _ c9) wl_499 wl_192 wl_75 wl_183 (hd_X8_indexOf).2 ⟨Nat.le_of_ble_eq_true rfl, Nat.le_of_ble_eq_true rfl⟩ ⟨Nat.le_refl _, Nat.le_refl _⟩ (Nat.le_of_ble_eq_true rfl) rfl dX8_isTold_9 ?_
  refine x_iconst F (v := (-1)) dX8_isTold_12 (by decide) ?_
  refine x_icmp_ne F (tgt := 48) dX8_isTold_13 (by decide) (fun c13 => ?_) (fun c13 => ?_)
  · rw [if_neg c13] at h
    refine x_iconst F (v := 1) dX8_isTold_48 (by decide) ?_
    refine x_goto F (tgt := 53) dX8_isTold_49 (by decide) ?_
    obtain ⟨rfl, rfl⟩ := retS h
    exact x_zret F hr hl (by decide) dX8_isTold_53
  · rw [if_pos c13] at h
    refine x_aload_n F dX8_isTold_16 rfl 0 rfl ?_
    obtain ⟨x17, c17, h⟩ := bdS h
    refine x_getR F (ci := 8) (C := RX8) (T := TX8) (N := 17) rfl ⟨by decide, rfl⟩ inU8 7 (by decide) (fun _ _ _ => rfl) wl_489 c17 dX8_isTold_17 ?_
    refine x_aload_n F dX8_isTold_20 rfl 0 rfl ?_
    obtain ⟨x21, c21, h⟩ := bdS h
    refine x_getI F (ci := 8) (C := RX8) (T := TX8) (N := 17) rfl ⟨by decide, rfl⟩ inU8 6 (by decide) (fun _ _ _ => rfl) wl_488 c21 dX8_isTold_21 ?_
    refine x_lload_n F dX8_isTold_24 rfl 1 rfl ?_
    obtain ⟨⟨x25, M25⟩, c25, h⟩ := bdS h
    dsimp only at h
    refine x_callS F (As := [.ref (b + x17), .int x21, .long v1]) (rest := []) (res := (some (.int x25))) (k_X8_indexOf l b D cy N x17 x21 v1 M9 _ _ c25) wl_499 wl_192 wl_75 wl_183 (hd_X8_indexOf).2 ⟨Nat.le_of_ble_eq_true rfl, Nat.le_of_ble_eq_true rfl⟩ ⟨Nat.le_refl _, Nat.le_refl _⟩ (Nat.le_of_ble_eq_true rfl) rfl dX8_isTold_25 ?_
    refine x_iconst F (v := (-1)) dX8_isTold_28 (by decide) ?_
    refine x_icmp_ne F (tgt := 48) dX8_isTold_29 (by decide) (fun c29 => ?_) (fun c29 => ?_)
    · rw [if_neg c29] at h
      refine x_iconst F (v := 1) dX8_isTold_48 (by decide) ?_
      refine x_goto F (tgt := 53) dX8_isTold_49 (by decide) ?_
      obtain ⟨rfl, rfl⟩ := retS h
      exact x_zret F hr hl (by decide) dX8_isTold_53
    · rw [if_pos c29] at h
      refine x_aload_n F dX8_isTold_32 rfl 0 rfl ?_
      obtain ⟨x33, c33, h⟩ := bdS h
      refine x_getR F (ci := 8) (C := RX8) (T := TX8) (N := 17) rfl ⟨by decide, rfl⟩ inU8 10 (by decide) (fun _ _ _ => rfl) wl_491 c33 dX8_isTold_33 ?_
      refine x_aload_n F dX8_isTold_36 rfl 0 rfl ?_
      obtain ⟨x37, c37, h⟩ := bdS h
      refine x_getI F (ci := 8) (C := RX8) (T := TX8) (N := 17) rfl ⟨by decide, rfl⟩ inU8 9 (by decide) (fun _ _ _ => rfl) wl_110 c37 dX8_isTold_37 ?_
      refine x_lload_n F dX8_isTold_40 rfl 1 rfl ?_
      obtain ⟨⟨x41, M41⟩, c41, h⟩ := bdS h
      dsimp only at h
      refine x_callS F (As := [.ref (b + x33), .int x37, .long v1]) (rest := []) (res := (some (.int x41))) (k_X8_indexOf l b D cy N x33 x37 v1 M25 _ _ c41) wl_499 wl_192 wl_75 wl_183 (hd_X8_indexOf).2 ⟨Nat.le_of_ble_eq_true rfl, Nat.le_of_ble_eq_true rfl⟩ ⟨Nat.le_refl _, Nat.le_refl _⟩ (Nat.le_of_ble_eq_true rfl) rfl dX8_isTold_41 ?_
      refine x_iconst F (v := (-1)) dX8_isTold_44 (by decide) ?_
      refine x_icmp_eq F (tgt := 52) dX8_isTold_45 (by decide) (fun c45 => ?_) (fun c45 => ?_)
      · rw [if_pos c45] at h
        refine x_iconst F (v := 0) dX8_isTold_52 (by decide) ?_
        obtain ⟨rfl, rfl⟩ := retS h
        exact x_zret F hr hl (by decide) dX8_isTold_53
      · rw [if_neg c45] at h
        refine x_iconst F (v := 1) dX8_isTold_48 (by decide) ?_
        refine x_goto F (tgt := 53) dX8_isTold_49 (by decide) ?_
        obtain ⟨rfl, rfl⟩ := retS h
        exact x_zret F hr hl (by decide) dX8_isTold_53
theorem hd_X8_isTold : (yX8_isTold).cls = RX8 ∧ (yX8_isTold).cls ≠ "java/lang/invoke/MethodHandle" ∧ (yX8_isTold).cls ≠ "java/lang/invoke/VarHandle" ∧ (parseMethodDescriptor (yX8_isTold).desc).map (fun d => d.parameters.length) = some 1 := by decide +kernel
theorem dX8_takeNewName_0 : decode cX8_takeNewName 0 = .ok (.aload_n 1, 1) := by decide +kernel
theorem dX8_takeNewName_1 : decode cX8_takeNewName 1 = .ok (.getfield 134, 3) := by decide +kernel
theorem dX8_takeNewName_4 : decode cX8_takeNewName 4 = .ok (.lstore_n 2, 1) := by decide +kernel
theorem dX8_takeNewName_5 : decode cX8_takeNewName 5 = .ok (.aload_n 1, 1) := by decide +kernel
theorem dX8_takeNewName_6 : decode cX8_takeNewName 6 = .ok (.invokevirtual 138, 3) := by decide +kernel
theorem dX8_takeNewName_9 : decode cX8_takeNewName 9 = .ok (.ifCond .ne 11, 3) := by decide +kernel
theorem dX8_takeNewName_12 : decode cX8_takeNewName 12 = .ok (.aload_n 1, 1) := by decide +kernel
theorem dX8_takeNewName_13 : decode cX8_takeNewName 13 = .ok (.iconst 1, 1) := by decide +kernel
theorem dX8_takeNewName_14 : decode cX8_takeNewName 14 = .ok (.invokevirtual 109, 3) := by decide +kernel
theorem dX8_takeNewName_17 : decode cX8_takeNewName 17 = .ok (.goto 23, 3) := by decide +kernel
theorem dX8_takeNewName_20 : decode cX8_takeNewName 20 = .ok (.aload_n 0, 1) := by decide +kernel
theorem dX8_takeNewName_21 : decode cX8_takeNewName 21 = .ok (.lload_n 2, 1) := by decide +kernel
theorem dX8_takeNewName_22 : decode cX8_takeNewName 22 = .ok (.invokevirtual 142, 3) := by decide +kernel
theorem dX8_takeNewName_25 : decode cX8_takeNewName 25 = .ok (.ifCond .eq 11, 3) := by decide +kernel
theorem dX8_takeNewName_28 : decode cX8_takeNewName 28 = .ok (.aload_n 1, 1) := by decide +kernel
theorem dX8_takeNewName_29 : decode cX8_takeNewName 29 = .ok (.iconst 3, 1) := by decide +kernel
theorem dX8_takeNewName_30 : decode cX8_takeNewName 30 = .ok (.invokevirtual 109, 3) := by decide +kernel
theorem dX8_takeNewName_33 : decode cX8_takeNewName 33 = .ok (.goto 7, 3) := by decide +kernel
theorem dX8_takeNewName_36 : decode cX8_takeNewName 36 = .ok (.aload_n 1, 1) := by decide +kernel
theorem dX8_takeNewName_37 : decode cX8_takeNewName 37 = .ok (.invokevirtual 112, 3) := by decide +kernel
theorem dX8_takeNewName_40 : decode cX8_takeNewName 40 = .ok (.lload_n 2, 1) := by decide +kernel
theorem dX8_takeNewName_41 : decode cX8_takeNewName 41 = .ok (.lreturn, 1) := by decide +kernel
def fX8_takeNewName (N : Nat) (v0 : Nat) (v1 : Nat) (M : Mem) : Option (Int64 × Mem) := ((fL M 9 v1 8).bind fun x1 => (if mK M v1 = 10 then ((fX9_atName N v1 M).bind fun (x6, M6) => (if x6 = 0 then (if mK M6 v1 = 10 then ((fX9_fail N v1 1 M6).bind fun (u14, M14) => some (x1, M14)) else none) else (if mK M6 v0 = 9 then ((fX8_isTold N v0 x1 M6).bind fun (x22, M22) => (if x22 = 0 then (if mK M22 v1 = 10 then ((fX9_advance N v1 M22).bind fun (u37, M37) => some (x1, M37)) else none) else (if mK M22 v1 = 10 then ((fX9_fail N v1 3 M22).bind fun (u30, M30) => some (x1, M30)) else none))) else none))) else none))
set_option maxHeartbeats 4000000 in
set_option maxRecDepth 100000 in
theorem k_X8_takeNewName (l : Launch) (b : Nat) (D : va_G) (cy : Nat → ClassId) (N : Nat) (v0 : Nat) (v1 : Nat) (M : Mem) (r : Int64) (Mf : Mem) (h : fX8_takeNewName N v0 v1 M = some (r, Mf)) : Ct l yX8_takeNewName cX8_takeNewName 4 (some .long) 3 0 0 b D cy [.ref (b + v0), .ref (b + v1)] M (some (.long r)) Mf := by
  refine Ct_of (own := RX8) (by decide) rfl (Nat.le_of_ble_eq_true rfl) ?_
  intro p e s m args below meth c F hr hl hmn
  unfold fX8_takeNewName at h
  show X p l e ({ frames := 3, cells := 0, slots := 0, locals := 100 * 3 }) s m args below meth c (MQ below (Qm b D cy (some (.long r)) Mf) args s 0 0 (fun q => b ≤ q)) 4 b D cy 0 0 M 0 [(0, .ref (b + v0)), (1, .ref (b + v1))] []
  refine x_aload_n F dX8_takeNewName_0 rfl 1 rfl ?_
  obtain ⟨x1, c1, h⟩ := bdS h
  refine x_getL F (ci := 9) (C := RX9) (T := TX9) (N := 12) rfl ⟨by decide, rfl⟩ inU9 8 (by decide) (fun _ _ _ => rfl) wl_500 c1 dX8_takeNewName_1 ?_
  refine x_lstore_n F (lv' := [(2, .long x1), (0, .ref (b + v0)), (1, .ref (b + v1))]) dX8_takeNewName_4 rfl (by decide) rfl ?_
  refine x_aload_n F dX8_takeNewName_5 rfl 2 rfl ?_
  obtain ⟨k6, h⟩ := gdS h
  obtain ⟨⟨x6, M6⟩, c6, h⟩ := bdS h
  dsimp only at h
  refine x_callV F (As := []) (rest := []) (res := (some (.int x6))) (ci := 9) (q := (RX9, TX9, 12)) rfl (by decide) k6 (k_X9_atName l b D cy N v1 M _ _ c6) wl_501 wl_189 wl_190 wl_164 wl_181 hd_X9_atName ⟨Nat.le_of_ble_eq_true rfl, Nat.le_of_ble_eq_true rfl⟩ ⟨Nat.le_refl _, Nat.le_refl _⟩ (Nat.le_of_ble_eq_true rfl) rfl dX8_takeNewName_6 ?_
  refine x_if_ne F (tgt := 20) dX8_takeNewName_9 (by decide) (fun c9 => ?_) (fun c9 => ?_)
  · rw [if_neg c9] at h
    refine x_aload_n F dX8_takeNewName_20 rfl 1 rfl ?_
    refine x_lload_n F dX8_takeNewName_21 rfl 0 rfl ?_
    obtain ⟨k22, h⟩ := gdS h
    obtain ⟨⟨x22, M22⟩, c22, h⟩ := bdS h
    dsimp only at h
    refine x_callV F (As := [.long x1]) (rest := []) (res := (some (.int x22))) (ci := 8) (q := (RX8, TX8, 17)) rfl (by decide) k22 (k_X8_isTold l b D cy N v0 x1 M6 _ _ c22) wl_503 wl_504 wl_505 wl_75 wl_498 hd_X8_isTold ⟨Nat.le_of_ble_eq_true rfl, Nat.le_of_ble_eq_true rfl⟩ ⟨Nat.le_refl _, Nat.le_refl _⟩ (Nat.le_of_ble_eq_true rfl) rfl dX8_takeNewName_22 ?_
    refine x_if_eq F (tgt := 36) dX8_takeNewName_25 (by decide) (fun c25 => ?_) (fun c25 => ?_)
    · rw [if_pos c25] at h
      refine x_aload_n F dX8_takeNewName_36 rfl 2 rfl ?_
      obtain ⟨k37, h⟩ := gdS h
      obtain ⟨⟨u37, M37⟩, c37, h⟩ := bdS h
      dsimp only at h
      refine x_callV F (As := []) (rest := []) (res := none) (ci := 9) (q := (RX9, TX9, 12)) rfl (by decide) k37 (k_X9_advance l b D cy N v1 M22 _ _ c37) wl_506 wl_178 wl_179 wl_164 wl_174 hd_X9_advance ⟨Nat.le_of_ble_eq_true rfl, Nat.le_of_ble_eq_true rfl⟩ ⟨Nat.le_refl _, Nat.le_refl _⟩ (Nat.le_of_ble_eq_true rfl) rfl dX8_takeNewName_37 ?_
      refine x_lload_n F dX8_takeNewName_40 rfl 0 rfl ?_
      obtain ⟨rfl, rfl⟩ := retS h
      exact x_lret F hr hl dX8_takeNewName_41
    · rw [if_neg c25] at h
      refine x_aload_n F dX8_takeNewName_28 rfl 2 rfl ?_
      refine x_iconst F (v := 3) dX8_takeNewName_29 (by decide) ?_
      obtain ⟨k30, h⟩ := gdS h
      obtain ⟨⟨u30, M30⟩, c30, h⟩ := bdS h
      dsimp only at h
      refine x_callV F (As := [.int 3]) (rest := []) (res := none) (ci := 9) (q := (RX9, TX9, 12)) rfl (by decide) k30 (k_X9_fail l b D cy N v1 3 M22 _ _ c30) wl_502 wl_185 wl_186 wl_164 wl_182 hd_X9_fail ⟨Nat.le_of_ble_eq_true rfl, Nat.le_of_ble_eq_true rfl⟩ ⟨Nat.le_refl _, Nat.le_refl _⟩ (Nat.le_of_ble_eq_true rfl) rfl dX8_takeNewName_30 ?_
      refine x_goto F (tgt := 40) dX8_takeNewName_33 (by decide) ?_
      refine x_lload_n F dX8_takeNewName_40 rfl 0 rfl ?_
      obtain ⟨rfl, rfl⟩ := retS h
      exact x_lret F hr hl dX8_takeNewName_41
  · rw [if_pos c9] at h
    refine x_aload_n F dX8_takeNewName_12 rfl 2 rfl ?_
    refine x_iconst F (v := 1) dX8_takeNewName_13 (by decide) ?_
    obtain ⟨k14, h⟩ := gdS h
    obtain ⟨⟨u14, M14⟩, c14, h⟩ := bdS h
    dsimp only at h
    refine x_callV F (As := [.int 1]) (rest := []) (res := none) (ci := 9) (q := (RX9, TX9, 12)) rfl (by decide) k14 (k_X9_fail l b D cy N v1 1 M6 _ _ c14) wl_502 wl_185 wl_186 wl_164 wl_182 hd_X9_fail ⟨Nat.le_of_ble_eq_true rfl, Nat.le_of_ble_eq_true rfl⟩ ⟨Nat.le_refl _, Nat.le_refl _⟩ (Nat.le_of_ble_eq_true rfl) rfl dX8_takeNewName_14 ?_
    refine x_goto F (tgt := 40) dX8_takeNewName_17 (by decide) ?_
    refine x_lload_n F dX8_takeNewName_40 rfl 0 rfl ?_
    obtain ⟨rfl, rfl⟩ := retS h
    exact x_lret F hr hl dX8_takeNewName_41
theorem hd_X8_takeNewName : (yX8_takeNewName).cls = RX8 ∧ (yX8_takeNewName).cls ≠ "java/lang/invoke/MethodHandle" ∧ (yX8_takeNewName).cls ≠ "java/lang/invoke/VarHandle" ∧ (parseMethodDescriptor (yX8_takeNewName).desc).map (fun d => d.parameters.length) = some 1 := by decide +kernel
theorem dX8_readBand_0 : decode cX8_readBand 0 = .ok (.aload_n 0, 1) := by decide +kernel
theorem dX8_readBand_1 : decode cX8_readBand 1 = .ok (.getfield 9, 3) := by decide +kernel
theorem dX8_readBand_4 : decode cX8_readBand 4 = .ok (.bipush 6, 2) := by decide +kernel
theorem dX8_readBand_6 : decode cX8_readBand 6 = .ok (.if_icmp .lt 9, 3) := by decide +kernel
theorem dX8_readBand_9 : decode cX8_readBand 9 = .ok (.aload_n 1, 1) := by decide +kernel
theorem dX8_readBand_10 : decode cX8_readBand 10 = .ok (.iconst 4, 1) := by decide +kernel
theorem dX8_readBand_11 : decode cX8_readBand 11 = .ok (.invokevirtual 109, 3) := by decide +kernel
theorem dX8_readBand_14 : decode cX8_readBand 14 = .ok (.return_, 1) := by decide +kernel
theorem dX8_readBand_15 : decode cX8_readBand 15 = .ok (.aload_n 1, 1) := by decide +kernel
theorem dX8_readBand_16 : decode cX8_readBand 16 = .ok (.invokevirtual 112, 3) := by decide +kernel
theorem dX8_readBand_19 : decode cX8_readBand 19 = .ok (.aload_n 0, 1) := by decide +kernel
theorem dX8_readBand_20 : decode cX8_readBand 20 = .ok (.aload_n 1, 1) := by decide +kernel
theorem dX8_readBand_21 : decode cX8_readBand 21 = .ok (.invokevirtual 115, 3) := by decide +kernel
theorem dX8_readBand_24 : decode cX8_readBand 24 = .ok (.lstore_n 2, 1) := by decide +kernel
theorem dX8_readBand_25 : decode cX8_readBand 25 = .ok (.aload_n 1, 1) := by decide +kernel
theorem dX8_readBand_26 : decode cX8_readBand 26 = .ok (.iconst 1, 1) := by decide +kernel
theorem dX8_readBand_27 : decode cX8_readBand 27 = .ok (.bipush 9, 2) := by decide +kernel
theorem dX8_readBand_29 : decode cX8_readBand 29 = .ok (.invokevirtual 119, 3) := by decide +kernel
theorem dX8_readBand_32 : decode cX8_readBand 32 = .ok (.istore 4, 2) := by decide +kernel
theorem dX8_readBand_34 : decode cX8_readBand 34 = .ok (.aload_n 1, 1) := by decide +kernel
theorem dX8_readBand_35 : decode cX8_readBand 35 = .ok (.iconst 2, 1) := by decide +kernel
theorem dX8_readBand_36 : decode cX8_readBand 36 = .ok (.bipush 12, 2) := by decide +kernel
theorem dX8_readBand_38 : decode cX8_readBand 38 = .ok (.invokevirtual 119, 3) := by decide +kernel
theorem dX8_readBand_41 : decode cX8_readBand 41 = .ok (.istore 5, 2) := by decide +kernel
theorem dX8_readBand_43 : decode cX8_readBand 43 = .ok (.aload_n 1, 1) := by decide +kernel
theorem dX8_readBand_44 : decode cX8_readBand 44 = .ok (.getfield 78, 3) := by decide +kernel
theorem dX8_readBand_47 : decode cX8_readBand 47 = .ok (.ifCond .ne 45, 3) := by decide +kernel
theorem dX8_readBand_50 : decode cX8_readBand 50 = .ok (.aload_n 0, 1) := by decide +kernel
theorem dX8_readBand_51 : decode cX8_readBand 51 = .ok (.getfield 15, 3) := by decide +kernel
theorem dX8_readBand_54 : decode cX8_readBand 54 = .ok (.aload_n 0, 1) := by decide +kernel
theorem dX8_readBand_55 : decode cX8_readBand 55 = .ok (.getfield 9, 3) := by decide +kernel
theorem dX8_readBand_58 : decode cX8_readBand 58 = .ok (.lload_n 2, 1) := by decide +kernel
theorem dX8_readBand_59 : decode cX8_readBand 59 = .ok (.lastore, 1) := by decide +kernel
theorem dX8_readBand_60 : decode cX8_readBand 60 = .ok (.aload_n 0, 1) := by decide +kernel
theorem dX8_readBand_61 : decode cX8_readBand 61 = .ok (.getfield 19, 3) := by decide +kernel
theorem dX8_readBand_64 : decode cX8_readBand 64 = .ok (.aload_n 0, 1) := by decide +kernel
theorem dX8_readBand_65 : decode cX8_readBand 65 = .ok (.getfield 9, 3) := by decide +kernel
theorem dX8_readBand_68 : decode cX8_readBand 68 = .ok (.iload 4, 2) := by decide +kernel
theorem dX8_readBand_70 : decode cX8_readBand 70 = .ok (.iastore, 1) := by decide +kernel
theorem dX8_readBand_71 : decode cX8_readBand 71 = .ok (.aload_n 0, 1) := by decide +kernel
theorem dX8_readBand_72 : decode cX8_readBand 72 = .ok (.getfield 23, 3) := by decide +kernel
theorem dX8_readBand_75 : decode cX8_readBand 75 = .ok (.aload_n 0, 1) := by decide +kernel
theorem dX8_readBand_76 : decode cX8_readBand 76 = .ok (.getfield 9, 3) := by decide +kernel
theorem dX8_readBand_79 : decode cX8_readBand 79 = .ok (.iload 5, 2) := by decide +kernel
theorem dX8_readBand_81 : decode cX8_readBand 81 = .ok (.iastore, 1) := by decide +kernel
theorem dX8_readBand_82 : decode cX8_readBand 82 = .ok (.aload_n 0, 1) := by decide +kernel
theorem dX8_readBand_83 : decode cX8_readBand 83 = .ok (.dup, 1) := by decide +kernel
theorem dX8_readBand_84 : decode cX8_readBand 84 = .ok (.getfield 9, 3) := by decide +kernel
theorem dX8_readBand_87 : decode cX8_readBand 87 = .ok (.iconst 1, 1) := by decide +kernel
theorem dX8_readBand_88 : decode cX8_readBand 88 = .ok (.iadd, 1) := by decide +kernel
theorem dX8_readBand_89 : decode cX8_readBand 89 = .ok (.putfield 9, 3) := by decide +kernel
theorem dX8_readBand_92 : decode cX8_readBand 92 = .ok (.return_, 1) := by decide +kernel
def fX8_readBand (N : Nat) (v0 : Nat) (v1 : Nat) (M : Mem) : Option (Unit × Mem) := ((fI M 8 v0 0).bind fun x1 => (if x1 < 6 then (if mK M v1 = 10 then ((fX9_advance N v1 M).bind fun (u16, M16) => (if mK M16 v0 = 9 then ((fX8_takeNewName N v0 v1 M16).bind fun (x21, M21) => (if mK M21 v1 = 10 then ((fX9_takeNumber N v1 1 9 M21).bind fun (x29, M29) => (if mK M29 v1 = 10 then ((fX9_takeNumber N v1 2 12 M29).bind fun (x38, M38) => ((fI M38 9 v1 10).bind fun x44 => (if x44 = 0 then ((fR M38 8 v0 1).bind fun x51 => ((fI M38 8 v0 0).bind fun x55 => ((tL M38 x51 x55 x21).bind fun M59 => ((fR M59 8 v0 2).bind fun x61 => ((fI M59 8 v0 0).bind fun x65 => ((tI M59 x61 x65 x29).bind fun M70 => ((fR M70 8 v0 3).bind fun x72 => ((fI M70 8 v0 0).bind fun x76 => ((tI M70 x72 x76 x38).bind fun M81 => ((fI M81 8 v0 0).bind fun x84 => ((pI M81 8 v0 0 (x84 + 1)).bind fun M89 => some ((), M89)))))))))))) else some ((), M38)))) else none)) else none)) else none)) else none) else (if mK M v1 = 10 then ((fX9_fail N v1 4 M).bind fun (u11, M11) => some ((), M11)) else none)))
set_option maxHeartbeats 4000000 in
set_option maxRecDepth 100000 in
theorem k_X8_readBand (l : Launch) (b : Nat) (D : va_G) (cy : Nat → ClassId) (N : Nat) (v0 : Nat) (v1 : Nat) (M : Mem) (r : Unit) (Mf : Mem) (h : fX8_readBand N v0 v1 M = some (r, Mf)) : Ct l yX8_readBand cX8_readBand 6 none 4 0 0 b D cy [.ref (b + v0), .ref (b + v1)] M none Mf := by
  refine Ct_of (own := RX8) (by decide) rfl (Nat.le_of_ble_eq_true rfl) ?_
  intro p e s m args below meth c F hr hl hmn
  unfold fX8_readBand at h
  show X p l e ({ frames := 4, cells := 0, slots := 0, locals := 100 * 4 }) s m args below meth c (MQ below (Qm b D cy none Mf) args s 0 0 (fun q => b ≤ q)) 6 b D cy 0 0 M 0 [(0, .ref (b + v0)), (1, .ref (b + v1))] []
  refine x_aload_n F dX8_readBand_0 rfl 0 rfl ?_
  obtain ⟨x1, c1, h⟩ := bdS h
  refine x_getI F (ci := 8) (C := RX8) (T := TX8) (N := 17) rfl ⟨by decide, rfl⟩ inU8 0 (by decide) (fun _ _ _ => rfl) wl_238 c1 dX8_readBand_1 ?_
  refine x_bipush F (v := 6) dX8_readBand_4 (by decide) ?_
  refine x_icmp_lt F (tgt := 15) dX8_readBand_6 (by decide) (fun c6 => ?_) (fun c6 => ?_)
  · rw [if_pos c6] at h
    refine x_aload_n F dX8_readBand_15 rfl 1 rfl ?_
    obtain ⟨k16, h⟩ := gdS h
    obtain ⟨⟨u16, M16⟩, c16, h⟩ := bdS h
    dsimp only at h
    refine x_callV F (As := []) (rest := []) (res := none) (ci := 9) (q := (RX9, TX9, 12)) rfl (by decide) k16 (k_X9_advance l b D cy N v1 M _ _ c16) wl_506 wl_178 wl_179 wl_164 wl_174 hd_X9_advance ⟨Nat.le_of_ble_eq_true rfl, Nat.le_of_ble_eq_true rfl⟩ ⟨Nat.le_refl _, Nat.le_refl _⟩ (Nat.le_of_ble_eq_true rfl) rfl dX8_readBand_16 ?_
    refine x_aload_n F dX8_readBand_19 rfl 0 rfl ?_
    refine x_aload_n F dX8_readBand_20 rfl 1 rfl ?_
    obtain ⟨k21, h⟩ := gdS h
    obtain ⟨⟨x21, M21⟩, c21, h⟩ := bdS h
    dsimp only at h
    refine x_callV F (As := [.ref (b + v1)]) (rest := []) (res := (some (.long x21))) (ci := 8) (q := (RX8, TX8, 17)) rfl (by decide) k21 (k_X8_takeNewName l b D cy N v0 v1 M16 _ _ c21) wl_509 wl_510 wl_511 wl_75 wl_507 hd_X8_takeNewName ⟨Nat.le_of_ble_eq_true rfl, Nat.le_of_ble_eq_true rfl⟩ ⟨Nat.le_refl _, Nat.le_refl _⟩ (Nat.le_of_ble_eq_true rfl) rfl dX8_readBand_21 ?_
    refine x_lstore_n F (lv' := [(2, .long x21), (0, .ref (b + v0)), (1, .ref (b + v1))]) dX8_readBand_24 rfl (by decide) rfl ?_
    refine x_aload_n F dX8_readBand_25 rfl 2 rfl ?_
    refine x_iconst F (v := 1) dX8_readBand_26 (by decide) ?_
    refine x_bipush F (v := 9) dX8_readBand_27 (by decide) ?_
    obtain ⟨k29, h⟩ := gdS h
    obtain ⟨⟨x29, M29⟩, c29, h⟩ := bdS h
    dsimp only at h
    refine x_callV F (As := [.int 1, .int 9]) (rest := []) (res := (some (.int x29))) (ci := 9) (q := (RX9, TX9, 12)) rfl (by decide) k29 (k_X9_takeNumber l b D cy N v1 1 9 M21 _ _ c29) wl_512 wl_203 wl_204 wl_164 wl_187 hd_X9_takeNumber ⟨Nat.le_of_ble_eq_true rfl, Nat.le_of_ble_eq_true rfl⟩ ⟨Nat.le_refl _, Nat.le_refl _⟩ (Nat.le_of_ble_eq_true rfl) rfl dX8_readBand_29 ?_
    refine x_istore F (lv' := [(4, .int x29), (2, .long x21), (0, .ref (b + v0)), (1, .ref (b + v1))]) dX8_readBand_32 (by decide) rfl ?_
    refine x_aload_n F dX8_readBand_34 rfl 3 rfl ?_
    refine x_iconst F (v := 2) dX8_readBand_35 (by decide) ?_
    refine x_bipush F (v := 12) dX8_readBand_36 (by decide) ?_
    obtain ⟨k38, h⟩ := gdS h
    obtain ⟨⟨x38, M38⟩, c38, h⟩ := bdS h
    dsimp only at h
    refine x_callV F (As := [.int 2, .int 12]) (rest := []) (res := (some (.int x38))) (ci := 9) (q := (RX9, TX9, 12)) rfl (by decide) k38 (k_X9_takeNumber l b D cy N v1 2 12 M29 _ _ c38) wl_512 wl_203 wl_204 wl_164 wl_187 hd_X9_takeNumber ⟨Nat.le_of_ble_eq_true rfl, Nat.le_of_ble_eq_true rfl⟩ ⟨Nat.le_refl _, Nat.le_refl _⟩ (Nat.le_of_ble_eq_true rfl) rfl dX8_readBand_38 ?_
    refine x_istore F (lv' := [(5, .int x38), (4, .int x29), (2, .long x21), (0, .ref (b + v0)), (1, .ref (b + v1))]) dX8_readBand_41 (by decide) rfl ?_
    refine x_aload_n F dX8_readBand_43 rfl 4 rfl ?_
    obtain ⟨x44, c44, h⟩ := bdS h
    refine x_getI F (ci := 9) (C := RX9) (T := TX9) (N := 12) rfl ⟨by decide, rfl⟩ inU9 10 (by decide) (fun _ _ _ => rfl) wl_508 c44 dX8_readBand_44 ?_
    refine x_if_ne F (tgt := 92) dX8_readBand_47 (by decide) (fun c47 => ?_) (fun c47 => ?_)
    · rw [if_neg c47] at h
      obtain ⟨rfl, rfl⟩ := retS h
      exact x_vret F hr hl dX8_readBand_92
    · rw [if_pos c47] at h
      refine x_aload_n F dX8_readBand_50 rfl 3 rfl ?_
      obtain ⟨x51, c51, h⟩ := bdS h
      refine x_getR F (ci := 8) (C := RX8) (T := TX8) (N := 17) rfl ⟨by decide, rfl⟩ inU8 1 (by decide) (fun _ _ _ => rfl) wl_486 c51 dX8_readBand_51 ?_
      refine x_aload_n F dX8_readBand_54 rfl 3 rfl ?_
      obtain ⟨x55, c55, h⟩ := bdS h
      refine x_getI F (ci := 8) (C := RX8) (T := TX8) (N := 17) rfl ⟨by decide, rfl⟩ inU8 0 (by decide) (fun _ _ _ => rfl) wl_238 c55 dX8_readBand_55 ?_
      refine x_lload_n F dX8_readBand_58 rfl 2 rfl ?_
      obtain ⟨M59, c59, h⟩ := bdS h
      refine x_tL F c59 dX8_readBand_59 ?_
      refine x_aload_n F dX8_readBand_60 rfl 3 rfl ?_
      obtain ⟨x61, c61, h⟩ := bdS h
      refine x_getR F (ci := 8) (C := RX8) (T := TX8) (N := 17) rfl ⟨by decide, rfl⟩ inU8 2 (by decide) (fun _ _ _ => rfl) wl_487 c61 dX8_readBand_61 ?_
      refine x_aload_n F dX8_readBand_64 rfl 3 rfl ?_
      obtain ⟨x65, c65, h⟩ := bdS h
      refine x_getI F (ci := 8) (C := RX8) (T := TX8) (N := 17) rfl ⟨by decide, rfl⟩ inU8 0 (by decide) (fun _ _ _ => rfl) wl_238 c65 dX8_readBand_65 ?_
      refine x_iload F dX8_readBand_68 1 rfl ?_
      obtain ⟨M70, c70, h⟩ := bdS h
      refine x_tI F c70 dX8_readBand_70 ?_
      refine x_aload_n F dX8_readBand_71 rfl 3 rfl ?_
      obtain ⟨x72, c72, h⟩ := bdS h
      refine x_getR F (ci := 8) (C := RX8) (T := TX8) (N := 17) rfl ⟨by decide, rfl⟩ inU8 3 (by decide) (fun _ _ _ => rfl) wl_240 c72 dX8_readBand_72 ?_
      refine x_aload_n F dX8_readBand_75 rfl 3 rfl ?_
      obtain ⟨x76, c76, h⟩ := bdS h
      refine x_getI F (ci := 8) (C := RX8) (T := TX8) (N := 17) rfl ⟨by decide, rfl⟩ inU8 0 (by decide) (fun _ _ _ => rfl) wl_238 c76 dX8_readBand_76 ?_
      refine x_iload F dX8_readBand_79 0 rfl ?_
      obtain ⟨M81, c81, h⟩ := bdS h
      refine x_tI F c81 dX8_readBand_81 ?_
      refine x_aload_n F dX8_readBand_82 rfl 3 rfl ?_
      refine x_dup F dX8_readBand_83 rfl ?_
      obtain ⟨x84, c84, h⟩ := bdS h
      refine x_getI F (ci := 8) (C := RX8) (T := TX8) (N := 17) rfl ⟨by decide, rfl⟩ inU8 0 (by decide) (fun _ _ _ => rfl) wl_238 c84 dX8_readBand_84 ?_
      refine x_iconst F (v := 1) dX8_readBand_87 (by decide) ?_
      refine x_iadd F dX8_readBand_88 ?_
      obtain ⟨M89, c89, h⟩ := bdS h
      refine x_putI F (ci := 8) (C := RX8) (T := TX8) (N := 17) rfl ⟨by decide, rfl⟩ inU8 tyX8_ok nmX8 0 (by decide) rfl rfl wl_238 c89 dX8_readBand_89 ?_
      obtain ⟨rfl, rfl⟩ := retS h
      exact x_vret F hr hl dX8_readBand_92
  · rw [if_neg c6] at h
    refine x_aload_n F dX8_readBand_9 rfl 1 rfl ?_
    refine x_iconst F (v := 4) dX8_readBand_10 (by decide) ?_
    obtain ⟨k11, h⟩ := gdS h
    obtain ⟨⟨u11, M11⟩, c11, h⟩ := bdS h
    dsimp only at h
    refine x_callV F (As := [.int 4]) (rest := []) (res := none) (ci := 9) (q := (RX9, TX9, 12)) rfl (by decide) k11 (k_X9_fail l b D cy N v1 4 M _ _ c11) wl_502 wl_185 wl_186 wl_164 wl_182 hd_X9_fail ⟨Nat.le_of_ble_eq_true rfl, Nat.le_of_ble_eq_true rfl⟩ ⟨Nat.le_refl _, Nat.le_refl _⟩ (Nat.le_of_ble_eq_true rfl) rfl dX8_readBand_11 ?_
    obtain ⟨rfl, rfl⟩ := retS h
    exact x_vret F hr hl dX8_readBand_14
theorem dX8_readLapse_0 : decode cX8_readLapse 0 = .ok (.aload_n 0, 1) := by decide +kernel
theorem dX8_readLapse_1 : decode cX8_readLapse 1 = .ok (.getfield 59, 3) := by decide +kernel
theorem dX8_readLapse_4 : decode cX8_readLapse 4 = .ok (.ifCond .eq 9, 3) := by decide +kernel
theorem dX8_readLapse_7 : decode cX8_readLapse 7 = .ok (.aload_n 1, 1) := by decide +kernel
theorem dX8_readLapse_8 : decode cX8_readLapse 8 = .ok (.iconst 3, 1) := by decide +kernel
theorem dX8_readLapse_9 : decode cX8_readLapse 9 = .ok (.invokevirtual 109, 3) := by decide +kernel
theorem dX8_readLapse_12 : decode cX8_readLapse 12 = .ok (.return_, 1) := by decide +kernel
theorem dX8_readLapse_13 : decode cX8_readLapse 13 = .ok (.aload_n 1, 1) := by decide +kernel
theorem dX8_readLapse_14 : decode cX8_readLapse 14 = .ok (.invokevirtual 112, 3) := by decide +kernel
theorem dX8_readLapse_17 : decode cX8_readLapse 17 = .ok (.aload_n 1, 1) := by decide +kernel
theorem dX8_readLapse_18 : decode cX8_readLapse 18 = .ok (.iconst 1, 1) := by decide +kernel
theorem dX8_readLapse_19 : decode cX8_readLapse 19 = .ok (.bipush 30, 2) := by decide +kernel
theorem dX8_readLapse_21 : decode cX8_readLapse 21 = .ok (.invokevirtual 119, 3) := by decide +kernel
theorem dX8_readLapse_24 : decode cX8_readLapse 24 = .ok (.istore_n 2, 1) := by decide +kernel
theorem dX8_readLapse_25 : decode cX8_readLapse 25 = .ok (.aload_n 1, 1) := by decide +kernel
theorem dX8_readLapse_26 : decode cX8_readLapse 26 = .ok (.getfield 78, 3) := by decide +kernel
theorem dX8_readLapse_29 : decode cX8_readLapse 29 = .ok (.ifCond .ne 13, 3) := by decide +kernel
theorem dX8_readLapse_32 : decode cX8_readLapse 32 = .ok (.aload_n 0, 1) := by decide +kernel
theorem dX8_readLapse_33 : decode cX8_readLapse 33 = .ok (.iload_n 2, 1) := by decide +kernel
theorem dX8_readLapse_34 : decode cX8_readLapse 34 = .ok (.putfield 56, 3) := by decide +kernel
theorem dX8_readLapse_37 : decode cX8_readLapse 37 = .ok (.aload_n 0, 1) := by decide +kernel
theorem dX8_readLapse_38 : decode cX8_readLapse 38 = .ok (.iconst 1, 1) := by decide +kernel
theorem dX8_readLapse_39 : decode cX8_readLapse 39 = .ok (.putfield 59, 3) := by decide +kernel
theorem dX8_readLapse_42 : decode cX8_readLapse 42 = .ok (.return_, 1) := by decide +kernel
def fX8_readLapse (N : Nat) (v0 : Nat) (v1 : Nat) (M : Mem) : Option (Unit × Mem) := ((fI M 8 v0 15).bind fun x1 => (if x1 = 0 then (if mK M v1 = 10 then ((fX9_advance N v1 M).bind fun (u14, M14) => (if mK M14 v1 = 10 then ((fX9_takeNumber N v1 1 30 M14).bind fun (x21, M21) => ((fI M21 9 v1 10).bind fun x26 => (if x26 = 0 then ((pI M21 8 v0 14 x21).bind fun M34 => ((pZ M34 8 v0 15 1).bind fun M39 => some ((), M39))) else some ((), M21)))) else none)) else none) else (if mK M v1 = 10 then ((fX9_fail N v1 3 M).bind fun (u9, M9) => some ((), M9)) else none)))
set_option maxHeartbeats 4000000 in
set_option maxRecDepth 100000 in
theorem k_X8_readLapse (l : Launch) (b : Nat) (D : va_G) (cy : Nat → ClassId) (N : Nat) (v0 : Nat) (v1 : Nat) (M : Mem) (r : Unit) (Mf : Mem) (h : fX8_readLapse N v0 v1 M = some (r, Mf)) : Ct l yX8_readLapse cX8_readLapse 3 none 4 0 0 b D cy [.ref (b + v0), .ref (b + v1)] M none Mf := by
  refine Ct_of (own := RX8) (by decide) rfl (Nat.le_of_ble_eq_true rfl) ?_
  intro p e s m args below meth c F hr hl hmn
  unfold fX8_readLapse at h
  show X p l e ({ frames := 4, cells := 0, slots := 0, locals := 100 * 4 }) s m args below meth c (MQ below (Qm b D cy none Mf) args s 0 0 (fun q => b ≤ q)) 3 b D cy 0 0 M 0 [(0, .ref (b + v0)), (1, .ref (b + v1))] []
  refine x_aload_n F dX8_readLapse_0 rfl 0 rfl ?_
  obtain ⟨x1, c1, h⟩ := bdS h
  refine x_getI F (ci := 8) (C := RX8) (T := TX8) (N := 17) rfl ⟨by decide, rfl⟩ inU8 15 (by decide) (fun _ _ _ => rfl) wl_494 c1 dX8_readLapse_1 ?_
  refine x_if_eq F (tgt := 13) dX8_readLapse_4 (by decide) (fun c4 => ?_) (fun c4 => ?_)
  · rw [if_pos c4] at h
    refine x_aload_n F dX8_readLapse_13 rfl 1 rfl ?_
    obtain ⟨k14, h⟩ := gdS h
    obtain ⟨⟨u14, M14⟩, c14, h⟩ := bdS h
    dsimp only at h
    refine x_callV F (As := []) (rest := []) (res := none) (ci := 9) (q := (RX9, TX9, 12)) rfl (by decide) k14 (k_X9_advance l b D cy N v1 M _ _ c14) wl_506 wl_178 wl_179 wl_164 wl_174 hd_X9_advance ⟨Nat.le_of_ble_eq_true rfl, Nat.le_of_ble_eq_true rfl⟩ ⟨Nat.le_refl _, Nat.le_refl _⟩ (Nat.le_of_ble_eq_true rfl) rfl dX8_readLapse_14 ?_
    refine x_aload_n F dX8_readLapse_17 rfl 1 rfl ?_
    refine x_iconst F (v := 1) dX8_readLapse_18 (by decide) ?_
    refine x_bipush F (v := 30) dX8_readLapse_19 (by decide) ?_
    obtain ⟨k21, h⟩ := gdS h
    obtain ⟨⟨x21, M21⟩, c21, h⟩ := bdS h
    dsimp only at h
    refine x_callV F (As := [.int 1, .int 30]) (rest := []) (res := (some (.int x21))) (ci := 9) (q := (RX9, TX9, 12)) rfl (by decide) k21 (k_X9_takeNumber l b D cy N v1 1 30 M14 _ _ c21) wl_512 wl_203 wl_204 wl_164 wl_187 hd_X9_takeNumber ⟨Nat.le_of_ble_eq_true rfl, Nat.le_of_ble_eq_true rfl⟩ ⟨Nat.le_refl _, Nat.le_refl _⟩ (Nat.le_of_ble_eq_true rfl) rfl dX8_readLapse_21 ?_
    refine x_istore_n F (lv' := [(2, .int x21), (0, .ref (b + v0)), (1, .ref (b + v1))]) dX8_readLapse_24 rfl (by decide) rfl ?_
    refine x_aload_n F dX8_readLapse_25 rfl 2 rfl ?_
    obtain ⟨x26, c26, h⟩ := bdS h
    refine x_getI F (ci := 9) (C := RX9) (T := TX9) (N := 12) rfl ⟨by decide, rfl⟩ inU9 10 (by decide) (fun _ _ _ => rfl) wl_508 c26 dX8_readLapse_26 ?_
    refine x_if_ne F (tgt := 42) dX8_readLapse_29 (by decide) (fun c29 => ?_) (fun c29 => ?_)
    · rw [if_neg c29] at h
      obtain ⟨rfl, rfl⟩ := retS h
      exact x_vret F hr hl dX8_readLapse_42
    · rw [if_pos c29] at h
      refine x_aload_n F dX8_readLapse_32 rfl 1 rfl ?_
      refine x_iload_n F dX8_readLapse_33 rfl 0 rfl ?_
      obtain ⟨M34, c34, h⟩ := bdS h
      refine x_putI F (ci := 8) (C := RX8) (T := TX8) (N := 17) rfl ⟨by decide, rfl⟩ inU8 tyX8_ok nmX8 14 (by decide) rfl rfl wl_493 c34 dX8_readLapse_34 ?_
      refine x_aload_n F dX8_readLapse_37 rfl 1 rfl ?_
      refine x_iconst F (v := 1) dX8_readLapse_38 (by decide) ?_
      obtain ⟨M39, c39, h⟩ := bdS h
      refine x_putZ F (ci := 8) (C := RX8) (T := TX8) (N := 17) rfl ⟨by decide, rfl⟩ inU8 tyX8_ok nmX8 15 (by decide) rfl rfl wl_494 c39 dX8_readLapse_39 ?_
      obtain ⟨rfl, rfl⟩ := retS h
      exact x_vret F hr hl dX8_readLapse_42
  · rw [if_neg c4] at h
    refine x_aload_n F dX8_readLapse_7 rfl 1 rfl ?_
    refine x_iconst F (v := 3) dX8_readLapse_8 (by decide) ?_
    obtain ⟨k9, h⟩ := gdS h
    obtain ⟨⟨u9, M9⟩, c9, h⟩ := bdS h
    dsimp only at h
    refine x_callV F (As := [.int 3]) (rest := []) (res := none) (ci := 9) (q := (RX9, TX9, 12)) rfl (by decide) k9 (k_X9_fail l b D cy N v1 3 M _ _ c9) wl_502 wl_185 wl_186 wl_164 wl_182 hd_X9_fail ⟨Nat.le_of_ble_eq_true rfl, Nat.le_of_ble_eq_true rfl⟩ ⟨Nat.le_refl _, Nat.le_refl _⟩ (Nat.le_of_ble_eq_true rfl) rfl dX8_readLapse_9 ?_
    obtain ⟨rfl, rfl⟩ := retS h
    exact x_vret F hr hl dX8_readLapse_12
theorem dX8_isLawNumber_0 : decode cX8_isLawNumber 0 = .ok (.iconst 0, 1) := by decide +kernel
theorem dX8_isLawNumber_1 : decode cX8_isLawNumber 1 = .ok (.istore_n 2, 1) := by decide +kernel
theorem dX8_isLawNumber_2 : decode cX8_isLawNumber 2 = .ok (.iload_n 2, 1) := by decide +kernel
theorem dX8_isLawNumber_3 : decode cX8_isLawNumber 3 = .ok (.aload_n 0, 1) := by decide +kernel
theorem dX8_isLawNumber_4 : decode cX8_isLawNumber 4 = .ok (.getfield 41, 3) := by decide +kernel
theorem dX8_isLawNumber_7 : decode cX8_isLawNumber 7 = .ok (.if_icmp .ge 21, 3) := by decide +kernel
theorem dX8_isLawNumber_10 : decode cX8_isLawNumber 10 = .ok (.aload_n 0, 1) := by decide +kernel
theorem dX8_isLawNumber_11 : decode cX8_isLawNumber 11 = .ok (.getfield 47, 3) := by decide +kernel
theorem dX8_isLawNumber_14 : decode cX8_isLawNumber 14 = .ok (.iload_n 2, 1) := by decide +kernel
theorem dX8_isLawNumber_15 : decode cX8_isLawNumber 15 = .ok (.iaload, 1) := by decide +kernel
theorem dX8_isLawNumber_16 : decode cX8_isLawNumber 16 = .ok (.iload_n 1, 1) := by decide +kernel
theorem dX8_isLawNumber_17 : decode cX8_isLawNumber 17 = .ok (.if_icmp .ne 5, 3) := by decide +kernel
theorem dX8_isLawNumber_20 : decode cX8_isLawNumber 20 = .ok (.iconst 1, 1) := by decide +kernel
theorem dX8_isLawNumber_21 : decode cX8_isLawNumber 21 = .ok (.ireturn, 1) := by decide +kernel
theorem dX8_isLawNumber_22 : decode cX8_isLawNumber 22 = .ok (.iinc 2 1, 3) := by decide +kernel
theorem dX8_isLawNumber_25 : decode cX8_isLawNumber 25 = .ok (.goto (-23), 3) := by decide +kernel
theorem dX8_isLawNumber_28 : decode cX8_isLawNumber 28 = .ok (.iconst 0, 1) := by decide +kernel
theorem dX8_isLawNumber_29 : decode cX8_isLawNumber 29 = .ok (.ireturn, 1) := by decide +kernel
def fX8_isLawNumber_L2 (N : Nat) (v0 : Nat) (v1 : Int32) : Nat → Int32 → Mem → Option (Int32 × Mem)
  | 0, _, _ => none
  | n + 1, v2, M => ((fI M 8 v0 9).bind fun x4 => (if x4 ≤ v2 then some (0, M) else ((fR M 8 v0 11).bind fun x11 => ((aI M x11 v2).bind fun x15 => (if x15 = v1 then some (1, M) else fX8_isLawNumber_L2 N v0 v1 n (v2 + 1) M)))))
def fX8_isLawNumber (N : Nat) (v0 : Nat) (v1 : Int32) (M : Mem) : Option (Int32 × Mem) := ((fX8_isLawNumber_L2 N v0 v1 N 0 M).bind fun o2 => some o2)
set_option maxHeartbeats 4000000 in
set_option maxRecDepth 100000 in
theorem k_X8_isLawNumber (l : Launch) (b : Nat) (D : va_G) (cy : Nat → ClassId) (N : Nat) (v0 : Nat) (v1 : Int32) (M : Mem) (r : Int32) (Mf : Mem) (h : fX8_isLawNumber N v0 v1 M = some (r, Mf)) : Ct l yX8_isLawNumber cX8_isLawNumber 3 (some .boolean) 1 0 0 b D cy [.ref (b + v0), .int v1] M (some (.int r)) Mf := by
  refine Ct_of (own := RX8) (by decide) rfl (Nat.le_of_ble_eq_true rfl) ?_
  intro p e s m args below meth c F hr hl hmn
  unfold fX8_isLawNumber at h
  show X p l e ({ frames := 1, cells := 0, slots := 0, locals := 100 * 1 }) s m args below meth c (MQ below (Qm b D cy (some (.int r)) Mf) args s 0 0 (fun q => b ≤ q)) 3 b D cy 0 0 M 0 [(0, .ref (b + v0)), (1, .int v1)] []
  refine x_iconst F (v := 0) dX8_isLawNumber_0 (by decide) ?_
  refine x_istore_n F (lv' := [(2, .int 0), (0, .ref (b + v0)), (1, .int v1)]) dX8_isLawNumber_1 rfl (by decide) rfl ?_
  have L2 : ∀ (v0 : Nat) (v1 : Int32) (n : Nat) (v2 : Int32) (M : Mem) (o : Int32 × Mem), fX8_isLawNumber_L2 N v0 v1 n v2 M = some o → (∀ (r' : Int32) (M' : Mem), o = (r', M') → r' = r ∧ M' = Mf) → X p l e ({ frames := 1, cells := 0, slots := 0, locals := 100 * 1 }) s m args below meth c (MQ below (Qm b D cy (some (.int r)) Mf) args s 0 0 (fun q => b ≤ q)) 3 b D cy 0 0 M 2 [(0, .ref (b + v0)), (1, .int v1), (2, .int v2)] [] := by
    intro v0 v1 n
    induction n with
    | zero => intro v2 M o h; exact absurd h (by rw [fX8_isLawNumber_L2]; exact fun z => by cases z)
    | succ n ih =>
      intro v2 M o h hR
      rw [fX8_isLawNumber_L2] at h
      refine x_iload_n F dX8_isLawNumber_2 rfl 2 rfl ?_
      refine x_aload_n F dX8_isLawNumber_3 rfl 0 rfl ?_
      obtain ⟨x4, c4, h⟩ := bdS h
      refine x_getI F (ci := 8) (C := RX8) (T := TX8) (N := 17) rfl ⟨by decide, rfl⟩ inU8 9 (by decide) (fun _ _ _ => rfl) wl_110 c4 dX8_isLawNumber_4 ?_
      refine x_icmp_ge F (tgt := 28) dX8_isLawNumber_7 (by decide) (fun c7 => ?_) (fun c7 => ?_)
      · rw [if_pos c7] at h
        refine x_iconst F (v := 0) dX8_isLawNumber_28 (by decide) ?_
        obtain rfl := Option.some.inj h
        obtain ⟨rfl, rfl⟩ := hR _ _ rfl
        exact x_zret F hr hl (by decide) dX8_isLawNumber_29
      · rw [if_neg c7] at h
        refine x_aload_n F dX8_isLawNumber_10 rfl 0 rfl ?_
        obtain ⟨x11, c11, h⟩ := bdS h
        refine x_getR F (ci := 8) (C := RX8) (T := TX8) (N := 17) rfl ⟨by decide, rfl⟩ inU8 11 (by decide) (fun _ _ _ => rfl) wl_492 c11 dX8_isLawNumber_11 ?_
        refine x_iload_n F dX8_isLawNumber_14 rfl 2 rfl ?_
        obtain ⟨x15, c15, h⟩ := bdS h
        refine x_aI F c15 dX8_isLawNumber_15 ?_
        refine x_iload_n F dX8_isLawNumber_16 rfl 1 rfl ?_
        refine x_icmp_ne F (tgt := 22) dX8_isLawNumber_17 (by decide) (fun c17 => ?_) (fun c17 => ?_)
        · rw [if_neg c17] at h
          refine x_iinc F (v := v2 + 1) (lv' := [(2, .int (v2 + 1)), (0, .ref (b + v0)), (1, .int v1)]) dX8_isLawNumber_22 2 rfl rfl (by decide) rfl ?_
          refine x_goto F (tgt := 2) dX8_isLawNumber_25 (by decide) ?_
          refine x_sub [1, 2, 0] rfl ?_
          exact ih (v2 + 1) M o h hR
        · rw [if_pos c17] at h
          refine x_iconst F (v := 1) dX8_isLawNumber_20 (by decide) ?_
          obtain rfl := Option.some.inj h
          obtain ⟨rfl, rfl⟩ := hR _ _ rfl
          exact x_zret F hr hl (by decide) dX8_isLawNumber_21
  obtain ⟨o2, h2, h⟩ := bdS h
  refine x_sub [1, 2, 0] rfl ?_
  refine L2 v0 v1 N 0 M o2 h2 (fun r' M' e => ?_)
  · subst e
    try dsimp only at h
    obtain ⟨rfl, rfl⟩ := retS h; exact ⟨rfl, rfl⟩
theorem dX8_setLawSigns_0 : decode cX8_setLawSigns 0 = .ok (.aload_n 0, 1) := by decide +kernel
theorem dX8_setLawSigns_1 : decode cX8_setLawSigns 1 = .ok (.getfield 47, 3) := by decide +kernel
theorem dX8_setLawSigns_4 : decode cX8_setLawSigns 4 = .ok (.iload_n 1, 1) := by decide +kernel
theorem dX8_setLawSigns_5 : decode cX8_setLawSigns 5 = .ok (.iload_n 2, 1) := by decide +kernel
theorem dX8_setLawSigns_6 : decode cX8_setLawSigns 6 = .ok (.iastore, 1) := by decide +kernel
theorem dX8_setLawSigns_7 : decode cX8_setLawSigns 7 = .ok (.aload_n 0, 1) := by decide +kernel
theorem dX8_setLawSigns_8 : decode cX8_setLawSigns 8 = .ok (.getfield 50, 3) := by decide +kernel
theorem dX8_setLawSigns_11 : decode cX8_setLawSigns 11 = .ok (.iload_n 1, 1) := by decide +kernel
theorem dX8_setLawSigns_12 : decode cX8_setLawSigns 12 = .ok (.iload_n 2, 1) := by decide +kernel
theorem dX8_setLawSigns_13 : decode cX8_setLawSigns 13 = .ok (.bipush 100, 2) := by decide +kernel
theorem dX8_setLawSigns_15 : decode cX8_setLawSigns 15 = .ok (.if_icmp .lt 7, 3) := by decide +kernel
theorem dX8_setLawSigns_18 : decode cX8_setLawSigns 18 = .ok (.iconst 3, 1) := by decide +kernel
theorem dX8_setLawSigns_19 : decode cX8_setLawSigns 19 = .ok (.goto 4, 3) := by decide +kernel
theorem dX8_setLawSigns_22 : decode cX8_setLawSigns 22 = .ok (.iconst 2, 1) := by decide +kernel
theorem dX8_setLawSigns_23 : decode cX8_setLawSigns 23 = .ok (.iastore, 1) := by decide +kernel
theorem dX8_setLawSigns_24 : decode cX8_setLawSigns 24 = .ok (.iload_n 2, 1) := by decide +kernel
theorem dX8_setLawSigns_25 : decode cX8_setLawSigns 25 = .ok (.istore_n 3, 1) := by decide +kernel
theorem dX8_setLawSigns_26 : decode cX8_setLawSigns 26 = .ok (.aload_n 0, 1) := by decide +kernel
theorem dX8_setLawSigns_27 : decode cX8_setLawSigns 27 = .ok (.getfield 50, 3) := by decide +kernel
theorem dX8_setLawSigns_30 : decode cX8_setLawSigns 30 = .ok (.iload_n 1, 1) := by decide +kernel
theorem dX8_setLawSigns_31 : decode cX8_setLawSigns 31 = .ok (.iaload, 1) := by decide +kernel
theorem dX8_setLawSigns_32 : decode cX8_setLawSigns 32 = .ok (.iconst 1, 1) := by decide +kernel
theorem dX8_setLawSigns_33 : decode cX8_setLawSigns 33 = .ok (.isub, 1) := by decide +kernel
theorem dX8_setLawSigns_34 : decode cX8_setLawSigns 34 = .ok (.istore 4, 2) := by decide +kernel
theorem dX8_setLawSigns_36 : decode cX8_setLawSigns 36 = .ok (.iload 4, 2) := by decide +kernel
theorem dX8_setLawSigns_38 : decode cX8_setLawSigns 38 = .ok (.ifCond .lt 29, 3) := by decide +kernel
theorem dX8_setLawSigns_41 : decode cX8_setLawSigns 41 = .ok (.aload_n 0, 1) := by decide +kernel
theorem dX8_setLawSigns_42 : decode cX8_setLawSigns 42 = .ok (.getfield 53, 3) := by decide +kernel
theorem dX8_setLawSigns_45 : decode cX8_setLawSigns 45 = .ok (.iload_n 1, 1) := by decide +kernel
theorem dX8_setLawSigns_46 : decode cX8_setLawSigns 46 = .ok (.iconst 3, 1) := by decide +kernel
theorem dX8_setLawSigns_47 : decode cX8_setLawSigns 47 = .ok (.imul, 1) := by decide +kernel
theorem dX8_setLawSigns_48 : decode cX8_setLawSigns 48 = .ok (.iload 4, 2) := by decide +kernel
theorem dX8_setLawSigns_50 : decode cX8_setLawSigns 50 = .ok (.iadd, 1) := by decide +kernel
theorem dX8_setLawSigns_51 : decode cX8_setLawSigns 51 = .ok (.iload_n 3, 1) := by decide +kernel
theorem dX8_setLawSigns_52 : decode cX8_setLawSigns 52 = .ok (.bipush 10, 2) := by decide +kernel
theorem dX8_setLawSigns_54 : decode cX8_setLawSigns 54 = .ok (.irem, 1) := by decide +kernel
theorem dX8_setLawSigns_55 : decode cX8_setLawSigns 55 = .ok (.iastore, 1) := by decide +kernel
theorem dX8_setLawSigns_56 : decode cX8_setLawSigns 56 = .ok (.iload_n 3, 1) := by decide +kernel
theorem dX8_setLawSigns_57 : decode cX8_setLawSigns 57 = .ok (.bipush 10, 2) := by decide +kernel
theorem dX8_setLawSigns_59 : decode cX8_setLawSigns 59 = .ok (.idiv, 1) := by decide +kernel
theorem dX8_setLawSigns_60 : decode cX8_setLawSigns 60 = .ok (.istore_n 3, 1) := by decide +kernel
theorem dX8_setLawSigns_61 : decode cX8_setLawSigns 61 = .ok (.iinc 4 (-1), 3) := by decide +kernel
theorem dX8_setLawSigns_64 : decode cX8_setLawSigns 64 = .ok (.goto (-28), 3) := by decide +kernel
theorem dX8_setLawSigns_67 : decode cX8_setLawSigns 67 = .ok (.return_, 1) := by decide +kernel
def fX8_setLawSigns_L36 (N : Nat) (v0 : Nat) (v1 : Int32) : Nat → Int32 → Int32 → Mem → Option (Mem)
  | 0, _, _, _ => none
  | n + 1, v3, v4, M => (if v4 < 0 then some M else ((fR M 8 v0 13).bind fun x42 => ((tI M x42 ((v1 * 3) + v4) (v3 - v3 / 10 * 10)).bind fun M55 => fX8_setLawSigns_L36 N v0 v1 n (v3 / 10) (v4 + (-1)) M55)))
def fX8_setLawSigns_J23 (N : Nat) (v0 : Nat) (v1 : Int32) (v2 : Int32) (s0 : Int32) (s1 : Int32) (s2 : Nat) (M : Mem) : Option (Unit × Mem) := ((tI M s2 s1 s0).bind fun M23 => ((fR M23 8 v0 12).bind fun x27 => ((aI M23 x27 v1).bind fun x31 => ((fX8_setLawSigns_L36 N v0 v1 N v2 (x31 - 1) M23).bind fun o36 => some ((), o36)))))
def fX8_setLawSigns (N : Nat) (v0 : Nat) (v1 : Int32) (v2 : Int32) (M : Mem) : Option (Unit × Mem) := ((fR M 8 v0 11).bind fun x1 => ((tI M x1 v1 v2).bind fun M6 => ((fR M6 8 v0 12).bind fun x8 => (if v2 < 100 then fX8_setLawSigns_J23 N v0 v1 v2 2 v1 x8 M6 else fX8_setLawSigns_J23 N v0 v1 v2 3 v1 x8 M6))))
set_option maxHeartbeats 4000000 in
set_option maxRecDepth 100000 in
theorem k_X8_setLawSigns (l : Launch) (b : Nat) (D : va_G) (cy : Nat → ClassId) (N : Nat) (v0 : Nat) (v1 : Int32) (v2 : Int32) (M : Mem) (r : Unit) (Mf : Mem) (h : fX8_setLawSigns N v0 v1 v2 M = some (r, Mf)) : Ct l yX8_setLawSigns cX8_setLawSigns 5 none 1 0 0 b D cy [.ref (b + v0), .int v1, .int v2] M none Mf := by
  refine Ct_of (own := RX8) (by decide) rfl (Nat.le_of_ble_eq_true rfl) ?_
  intro p e s m args below meth c F hr hl hmn
  unfold fX8_setLawSigns at h
  have J23 : ∀ (v0 : Nat) (v1 : Int32) (v2 : Int32) (s0 : Int32) (s1 : Int32) (s2 : Nat) (M : Mem), fX8_setLawSigns_J23 N v0 v1 v2 s0 s1 s2 M = some (r, Mf) → X p l e ({ frames := 1, cells := 0, slots := 0, locals := 100 * 1 }) s m args below meth c (MQ below (Qm b D cy none Mf) args s 0 0 (fun q => b ≤ q)) 5 b D cy 0 0 M 23 [(0, .ref (b + v0)), (1, .int v1), (2, .int v2)] [.int s0, .int s1, .ref (b + s2)] := by
    intro v0 v1 v2 s0 s1 s2 M h
    unfold fX8_setLawSigns_J23 at h
    obtain ⟨M23, c23, h⟩ := bdS h
    refine x_tI F c23 dX8_setLawSigns_23 ?_
    refine x_iload_n F dX8_setLawSigns_24 rfl 2 rfl ?_
    refine x_istore_n F (lv' := [(3, .int v2), (0, .ref (b + v0)), (1, .int v1), (2, .int v2)]) dX8_setLawSigns_25 rfl (by decide) rfl ?_
    refine x_aload_n F dX8_setLawSigns_26 rfl 1 rfl ?_
    obtain ⟨x27, c27, h⟩ := bdS h
    refine x_getR F (ci := 8) (C := RX8) (T := TX8) (N := 17) rfl ⟨by decide, rfl⟩ inU8 12 (by decide) (fun _ _ _ => rfl) wl_101 c27 dX8_setLawSigns_27 ?_
    refine x_iload_n F dX8_setLawSigns_30 rfl 2 rfl ?_
    obtain ⟨x31, c31, h⟩ := bdS h
    refine x_aI F c31 dX8_setLawSigns_31 ?_
    refine x_iconst F (v := 1) dX8_setLawSigns_32 (by decide) ?_
    refine x_isub F dX8_setLawSigns_33 ?_
    refine x_istore F (lv' := [(4, .int (x31 - 1)), (3, .int v2), (0, .ref (b + v0)), (1, .int v1), (2, .int v2)]) dX8_setLawSigns_34 (by decide) rfl ?_
    have L36 : ∀ (v0 : Nat) (v1 : Int32) (n : Nat) (v3 : Int32) (v4 : Int32) (M : Mem) (o : Mem), fX8_setLawSigns_L36 N v0 v1 n v3 v4 M = some o → X p l e ({ frames := 1, cells := 0, slots := 0, locals := 100 * 1 }) s m args below meth c (MQ below (Qm b D cy none Mf) args s 0 0 (fun q => b ≤ q)) 5 b D cy 0 0 o 67 [] [] → X p l e ({ frames := 1, cells := 0, slots := 0, locals := 100 * 1 }) s m args below meth c (MQ below (Qm b D cy none Mf) args s 0 0 (fun q => b ≤ q)) 5 b D cy 0 0 M 36 [(0, .ref (b + v0)), (1, .int v1), (3, .int v3), (4, .int v4)] [] := by
      intro v0 v1 n
      induction n with
      | zero => intro v3 v4 M o h; exact absurd h (by rw [fX8_setLawSigns_L36]; exact fun z => by cases z)
      | succ n ih =>
        intro v3 v4 M o h hE
        rw [fX8_setLawSigns_L36] at h
        refine x_iload F dX8_setLawSigns_36 3 rfl ?_
        refine x_if_lt F (tgt := 67) dX8_setLawSigns_38 (by decide) (fun c38 => ?_) (fun c38 => ?_)
        · rw [if_pos c38] at h
          obtain rfl := Option.some.inj h
          refine x_sub [] rfl ?_
          exact hE
        · rw [if_neg c38] at h
          refine x_aload_n F dX8_setLawSigns_41 rfl 0 rfl ?_
          obtain ⟨x42, c42, h⟩ := bdS h
          refine x_getR F (ci := 8) (C := RX8) (T := TX8) (N := 17) rfl ⟨by decide, rfl⟩ inU8 13 (by decide) (fun _ _ _ => rfl) wl_99 c42 dX8_setLawSigns_42 ?_
          refine x_iload_n F dX8_setLawSigns_45 rfl 1 rfl ?_
          refine x_iconst F (v := 3) dX8_setLawSigns_46 (by decide) ?_
          refine x_imul F dX8_setLawSigns_47 ?_
          refine x_iload F dX8_setLawSigns_48 3 rfl ?_
          refine x_iadd F dX8_setLawSigns_50 ?_
          refine x_iload_n F dX8_setLawSigns_51 rfl 2 rfl ?_
          refine x_bipush F (v := 10) dX8_setLawSigns_52 (by decide) ?_
          refine x_irem F dX8_setLawSigns_54 (by decide) ?_
          obtain ⟨M55, c55, h⟩ := bdS h
          refine x_tI F c55 dX8_setLawSigns_55 ?_
          refine x_iload_n F dX8_setLawSigns_56 rfl 2 rfl ?_
          refine x_bipush F (v := 10) dX8_setLawSigns_57 (by decide) ?_
          refine x_idiv F dX8_setLawSigns_59 (by decide) ?_
          refine x_istore_n F (lv' := [(3, .int (v3 / 10)), (0, .ref (b + v0)), (1, .int v1), (4, .int v4)]) dX8_setLawSigns_60 rfl (by decide) rfl ?_
          refine x_iinc F (v := v4 + (-1)) (lv' := [(4, .int (v4 + (-1))), (3, .int (v3 / 10)), (0, .ref (b + v0)), (1, .int v1)]) dX8_setLawSigns_61 3 rfl rfl (by decide) rfl ?_
          refine x_goto F (tgt := 36) dX8_setLawSigns_64 (by decide) ?_
          refine x_sub [2, 3, 1, 0] rfl ?_
          exact ih (v3 / 10) (v4 + (-1)) M55 o h hE
    obtain ⟨o36, h36, h⟩ := bdS h
    refine x_sub [2, 3, 1, 0] rfl ?_
    refine L36 v0 v1 N v2 (x31 - 1) M23 o36 h36 ?_
    obtain ⟨rfl, rfl⟩ := retS h
    exact x_vret F hr hl dX8_setLawSigns_67
  show X p l e ({ frames := 1, cells := 0, slots := 0, locals := 100 * 1 }) s m args below meth c (MQ below (Qm b D cy none Mf) args s 0 0 (fun q => b ≤ q)) 5 b D cy 0 0 M 0 [(0, .ref (b + v0)), (1, .int v1), (2, .int v2)] []
  refine x_aload_n F dX8_setLawSigns_0 rfl 0 rfl ?_
  obtain ⟨x1, c1, h⟩ := bdS h
  refine x_getR F (ci := 8) (C := RX8) (T := TX8) (N := 17) rfl ⟨by decide, rfl⟩ inU8 11 (by decide) (fun _ _ _ => rfl) wl_492 c1 dX8_setLawSigns_1 ?_
  refine x_iload_n F dX8_setLawSigns_4 rfl 1 rfl ?_
  refine x_iload_n F dX8_setLawSigns_5 rfl 2 rfl ?_
  obtain ⟨M6, c6, h⟩ := bdS h
  refine x_tI F c6 dX8_setLawSigns_6 ?_
  refine x_aload_n F dX8_setLawSigns_7 rfl 0 rfl ?_
  obtain ⟨x8, c8, h⟩ := bdS h
  refine x_getR F (ci := 8) (C := RX8) (T := TX8) (N := 17) rfl ⟨by decide, rfl⟩ inU8 12 (by decide) (fun _ _ _ => rfl) wl_101 c8 dX8_setLawSigns_8 ?_
  refine x_iload_n F dX8_setLawSigns_11 rfl 1 rfl ?_
  refine x_iload_n F dX8_setLawSigns_12 rfl 2 rfl ?_
  refine x_bipush F (v := 100) dX8_setLawSigns_13 (by decide) ?_
  refine x_icmp_lt F (tgt := 22) dX8_setLawSigns_15 (by decide) (fun c15 => ?_) (fun c15 => ?_)
  · rw [if_pos c15] at h
    refine x_iconst F (v := 2) dX8_setLawSigns_22 (by decide) ?_
    exact J23 v0 v1 v2 2 v1 x8 M6 h
  · rw [if_neg c15] at h
    refine x_iconst F (v := 3) dX8_setLawSigns_18 (by decide) ?_
    refine x_goto F (tgt := 23) dX8_setLawSigns_19 (by decide) ?_
    exact J23 v0 v1 v2 3 v1 x8 M6 h
theorem hd_X8_setLawSigns : (yX8_setLawSigns).cls = RX8 ∧ (yX8_setLawSigns).cls ≠ "java/lang/invoke/MethodHandle" ∧ (yX8_setLawSigns).cls ≠ "java/lang/invoke/VarHandle" ∧ (parseMethodDescriptor (yX8_setLawSigns).desc).map (fun d => d.parameters.length) = some 2 := by decide +kernel
theorem hd_X8_isLawNumber : (yX8_isLawNumber).cls = RX8 ∧ (yX8_isLawNumber).cls ≠ "java/lang/invoke/MethodHandle" ∧ (yX8_isLawNumber).cls ≠ "java/lang/invoke/VarHandle" ∧ (parseMethodDescriptor (yX8_isLawNumber).desc).map (fun d => d.parameters.length) = some 1 := by decide +kernel
theorem dX8_readLaw_0 : decode cX8_readLaw 0 = .ok (.aload_n 0, 1) := by decide +kernel
theorem dX8_readLaw_1 : decode cX8_readLaw 1 = .ok (.getfield 41, 3) := by decide +kernel
theorem dX8_readLaw_4 : decode cX8_readLaw 4 = .ok (.bipush 6, 2) := by decide +kernel
theorem dX8_readLaw_6 : decode cX8_readLaw 6 = .ok (.if_icmp .lt 9, 3) := by decide +kernel
theorem dX8_readLaw_9 : decode cX8_readLaw 9 = .ok (.aload_n 1, 1) := by decide +kernel
theorem dX8_readLaw_10 : decode cX8_readLaw 10 = .ok (.iconst 4, 1) := by decide +kernel
theorem dX8_readLaw_11 : decode cX8_readLaw 11 = .ok (.invokevirtual 109, 3) := by decide +kernel
theorem dX8_readLaw_14 : decode cX8_readLaw 14 = .ok (.return_, 1) := by decide +kernel
theorem dX8_readLaw_15 : decode cX8_readLaw 15 = .ok (.aload_n 1, 1) := by decide +kernel
theorem dX8_readLaw_16 : decode cX8_readLaw 16 = .ok (.invokevirtual 112, 3) := by decide +kernel
theorem dX8_readLaw_19 : decode cX8_readLaw 19 = .ok (.aload_n 0, 1) := by decide +kernel
theorem dX8_readLaw_20 : decode cX8_readLaw 20 = .ok (.aload_n 1, 1) := by decide +kernel
theorem dX8_readLaw_21 : decode cX8_readLaw 21 = .ok (.invokevirtual 115, 3) := by decide +kernel
theorem dX8_readLaw_24 : decode cX8_readLaw 24 = .ok (.lstore_n 2, 1) := by decide +kernel
theorem dX8_readLaw_25 : decode cX8_readLaw 25 = .ok (.aload_n 1, 1) := by decide +kernel
theorem dX8_readLaw_26 : decode cX8_readLaw 26 = .ok (.getfield 78, 3) := by decide +kernel
theorem dX8_readLaw_29 : decode cX8_readLaw 29 = .ok (.ifCond .ne 27, 3) := by decide +kernel
theorem dX8_readLaw_32 : decode cX8_readLaw 32 = .ok (.aload_n 1, 1) := by decide +kernel
theorem dX8_readLaw_33 : decode cX8_readLaw 33 = .ok (.getfield 81, 3) := by decide +kernel
theorem dX8_readLaw_36 : decode cX8_readLaw 36 = .ok (.iconst 2, 1) := by decide +kernel
theorem dX8_readLaw_37 : decode cX8_readLaw 37 = .ok (.if_icmp .ne 19, 3) := by decide +kernel
theorem dX8_readLaw_40 : decode cX8_readLaw 40 = .ok (.aload_n 0, 1) := by decide +kernel
theorem dX8_readLaw_41 : decode cX8_readLaw 41 = .ok (.aload_n 1, 1) := by decide +kernel
theorem dX8_readLaw_42 : decode cX8_readLaw 42 = .ok (.getfield 123, 3) := by decide +kernel
theorem dX8_readLaw_45 : decode cX8_readLaw 45 = .ok (.invokevirtual 126, 3) := by decide +kernel
theorem dX8_readLaw_48 : decode cX8_readLaw 48 = .ok (.ifCond .eq 8, 3) := by decide +kernel
theorem dX8_readLaw_51 : decode cX8_readLaw 51 = .ok (.aload_n 1, 1) := by decide +kernel
theorem dX8_readLaw_52 : decode cX8_readLaw 52 = .ok (.iconst 3, 1) := by decide +kernel
theorem dX8_readLaw_53 : decode cX8_readLaw 53 = .ok (.invokevirtual 109, 3) := by decide +kernel
theorem dX8_readLaw_56 : decode cX8_readLaw 56 = .ok (.aload_n 1, 1) := by decide +kernel
theorem dX8_readLaw_57 : decode cX8_readLaw 57 = .ok (.bipush 10, 2) := by decide +kernel
theorem dX8_readLaw_59 : decode cX8_readLaw 59 = .ok (.sipush 999, 3) := by decide +kernel
theorem dX8_readLaw_62 : decode cX8_readLaw 62 = .ok (.invokevirtual 119, 3) := by decide +kernel
theorem dX8_readLaw_65 : decode cX8_readLaw 65 = .ok (.istore 4, 2) := by decide +kernel
theorem dX8_readLaw_67 : decode cX8_readLaw 67 = .ok (.aload_n 1, 1) := by decide +kernel
theorem dX8_readLaw_68 : decode cX8_readLaw 68 = .ok (.getfield 78, 3) := by decide +kernel
theorem dX8_readLaw_71 : decode cX8_readLaw 71 = .ok (.ifCond .ne 33, 3) := by decide +kernel
theorem dX8_readLaw_74 : decode cX8_readLaw 74 = .ok (.aload_n 0, 1) := by decide +kernel
theorem dX8_readLaw_75 : decode cX8_readLaw 75 = .ok (.getfield 44, 3) := by decide +kernel
theorem dX8_readLaw_78 : decode cX8_readLaw 78 = .ok (.aload_n 0, 1) := by decide +kernel
theorem dX8_readLaw_79 : decode cX8_readLaw 79 = .ok (.getfield 41, 3) := by decide +kernel
theorem dX8_readLaw_82 : decode cX8_readLaw 82 = .ok (.lload_n 2, 1) := by decide +kernel
theorem dX8_readLaw_83 : decode cX8_readLaw 83 = .ok (.lastore, 1) := by decide +kernel
theorem dX8_readLaw_84 : decode cX8_readLaw 84 = .ok (.aload_n 0, 1) := by decide +kernel
theorem dX8_readLaw_85 : decode cX8_readLaw 85 = .ok (.aload_n 0, 1) := by decide +kernel
theorem dX8_readLaw_86 : decode cX8_readLaw 86 = .ok (.getfield 41, 3) := by decide +kernel
theorem dX8_readLaw_89 : decode cX8_readLaw 89 = .ok (.iload 4, 2) := by decide +kernel
theorem dX8_readLaw_91 : decode cX8_readLaw 91 = .ok (.invokevirtual 130, 3) := by decide +kernel
theorem dX8_readLaw_94 : decode cX8_readLaw 94 = .ok (.aload_n 0, 1) := by decide +kernel
theorem dX8_readLaw_95 : decode cX8_readLaw 95 = .ok (.dup, 1) := by decide +kernel
theorem dX8_readLaw_96 : decode cX8_readLaw 96 = .ok (.getfield 41, 3) := by decide +kernel
theorem dX8_readLaw_99 : decode cX8_readLaw 99 = .ok (.iconst 1, 1) := by decide +kernel
theorem dX8_readLaw_100 : decode cX8_readLaw 100 = .ok (.iadd, 1) := by decide +kernel
theorem dX8_readLaw_101 : decode cX8_readLaw 101 = .ok (.putfield 41, 3) := by decide +kernel
theorem dX8_readLaw_104 : decode cX8_readLaw 104 = .ok (.return_, 1) := by decide +kernel
def fX8_readLaw_J56 (N : Nat) (v0 : Nat) (v1 : Nat) (v2 : Int64) (M : Mem) : Option (Unit × Mem) := (if mK M v1 = 10 then ((fX9_takeNumber N v1 10 999 M).bind fun (x62, M62) => ((fI M62 9 v1 10).bind fun x68 => (if x68 = 0 then ((fR M62 8 v0 10).bind fun x75 => ((fI M62 8 v0 9).bind fun x79 => ((tL M62 x75 x79 v2).bind fun M83 => ((fI M83 8 v0 9).bind fun x86 => (if mK M83 v0 = 9 then ((fX8_setLawSigns N v0 x86 x62 M83).bind fun (u91, M91) => ((fI M91 8 v0 9).bind fun x96 => ((pI M91 8 v0 9 (x96 + 1)).bind fun M101 => some ((), M101)))) else none))))) else some ((), M62)))) else none)
def fX8_readLaw (N : Nat) (v0 : Nat) (v1 : Nat) (M : Mem) : Option (Unit × Mem) := ((fI M 8 v0 9).bind fun x1 => (if x1 < 6 then (if mK M v1 = 10 then ((fX9_advance N v1 M).bind fun (u16, M16) => (if mK M16 v0 = 9 then ((fX8_takeNewName N v0 v1 M16).bind fun (x21, M21) => ((fI M21 9 v1 10).bind fun x26 => (if x26 = 0 then ((fI M21 9 v1 5).bind fun x33 => (if x33 = 2 then ((fI M21 9 v1 7).bind fun x42 => (if mK M21 v0 = 9 then ((fX8_isLawNumber N v0 x42 M21).bind fun (x45, M45) => (if x45 = 0 then fX8_readLaw_J56 N v0 v1 x21 M45 else (if mK M45 v1 = 10 then ((fX9_fail N v1 3 M45).bind fun (u53, M53) => fX8_readLaw_J56 N v0 v1 x21 M53) else none))) else none)) else fX8_readLaw_J56 N v0 v1 x21 M21)) else fX8_readLaw_J56 N v0 v1 x21 M21))) else none)) else none) else (if mK M v1 = 10 then ((fX9_fail N v1 4 M).bind fun (u11, M11) => some ((), M11)) else none)))
set_option maxHeartbeats 4000000 in
set_option maxRecDepth 100000 in
theorem k_X8_readLaw (l : Launch) (b : Nat) (D : va_G) (cy : Nat → ClassId) (N : Nat) (v0 : Nat) (v1 : Nat) (M : Mem) (r : Unit) (Mf : Mem) (h : fX8_readLaw N v0 v1 M = some (r, Mf)) : Ct l yX8_readLaw cX8_readLaw 5 none 4 0 0 b D cy [.ref (b + v0), .ref (b + v1)] M none Mf := by
  refine Ct_of (own := RX8) (by decide) rfl (Nat.le_of_ble_eq_true rfl) ?_
  intro p e s m args below meth c F hr hl hmn
  unfold fX8_readLaw at h
  have J56 : ∀ (v0 : Nat) (v1 : Nat) (v2 : Int64) (M : Mem), fX8_readLaw_J56 N v0 v1 v2 M = some (r, Mf) → X p l e ({ frames := 4, cells := 0, slots := 0, locals := 100 * 4 }) s m args below meth c (MQ below (Qm b D cy none Mf) args s 0 0 (fun q => b ≤ q)) 5 b D cy 0 0 M 56 [(0, .ref (b + v0)), (1, .ref (b + v1)), (2, .long v2)] [] := by
    intro v0 v1 v2 M h
    unfold fX8_readLaw_J56 at h
    refine x_aload_n F dX8_readLaw_56 rfl 1 rfl ?_
    refine x_bipush F (v := 10) dX8_readLaw_57 (by decide) ?_
    refine x_sipush F (v := 999) dX8_readLaw_59 (by decide) ?_
    obtain ⟨k62, h⟩ := gdS h
    obtain ⟨⟨x62, M62⟩, c62, h⟩ := bdS h
    dsimp only at h
    refine x_callV F (As := [.int 10, .int 999]) (rest := []) (res := (some (.int x62))) (ci := 9) (q := (RX9, TX9, 12)) rfl (by decide) k62 (k_X9_takeNumber l b D cy N v1 10 999 M _ _ c62) wl_512 wl_203 wl_204 wl_164 wl_187 hd_X9_takeNumber ⟨Nat.le_of_ble_eq_true rfl, Nat.le_of_ble_eq_true rfl⟩ ⟨Nat.le_refl _, Nat.le_refl _⟩ (Nat.le_of_ble_eq_true rfl) rfl dX8_readLaw_62 ?_
    refine x_istore F (lv' := [(4, .int x62), (0, .ref (b + v0)), (1, .ref (b + v1)), (2, .long v2)]) dX8_readLaw_65 (by decide) rfl ?_
    refine x_aload_n F dX8_readLaw_67 rfl 2 rfl ?_
    obtain ⟨x68, c68, h⟩ := bdS h
    refine x_getI F (ci := 9) (C := RX9) (T := TX9) (N := 12) rfl ⟨by decide, rfl⟩ inU9 10 (by decide) (fun _ _ _ => rfl) wl_508 c68 dX8_readLaw_68 ?_
    refine x_if_ne F (tgt := 104) dX8_readLaw_71 (by decide) (fun c71 => ?_) (fun c71 => ?_)
    · rw [if_neg c71] at h
      obtain ⟨rfl, rfl⟩ := retS h
      exact x_vret F hr hl dX8_readLaw_104
    · rw [if_pos c71] at h
      refine x_aload_n F dX8_readLaw_74 rfl 1 rfl ?_
      obtain ⟨x75, c75, h⟩ := bdS h
      refine x_getR F (ci := 8) (C := RX8) (T := TX8) (N := 17) rfl ⟨by decide, rfl⟩ inU8 10 (by decide) (fun _ _ _ => rfl) wl_491 c75 dX8_readLaw_75 ?_
      refine x_aload_n F dX8_readLaw_78 rfl 1 rfl ?_
      obtain ⟨x79, c79, h⟩ := bdS h
      refine x_getI F (ci := 8) (C := RX8) (T := TX8) (N := 17) rfl ⟨by decide, rfl⟩ inU8 9 (by decide) (fun _ _ _ => rfl) wl_110 c79 dX8_readLaw_79 ?_
      refine x_lload_n F dX8_readLaw_82 rfl 3 rfl ?_
      obtain ⟨M83, c83, h⟩ := bdS h
      refine x_tL F c83 dX8_readLaw_83 ?_
      refine x_aload_n F dX8_readLaw_84 rfl 1 rfl ?_
      refine x_aload_n F dX8_readLaw_85 rfl 1 rfl ?_
      obtain ⟨x86, c86, h⟩ := bdS h
      refine x_getI F (ci := 8) (C := RX8) (T := TX8) (N := 17) rfl ⟨by decide, rfl⟩ inU8 9 (by decide) (fun _ _ _ => rfl) wl_110 c86 dX8_readLaw_86 ?_
      refine x_iload F dX8_readLaw_89 0 rfl ?_
      obtain ⟨k91, h⟩ := gdS h
      obtain ⟨⟨u91, M91⟩, c91, h⟩ := bdS h
      dsimp only at h
      refine x_callV F (As := [.int x86, .int x62]) (rest := []) (res := none) (ci := 8) (q := (RX8, TX8, 17)) rfl (by decide) k91 (k_X8_setLawSigns l b D cy N v0 x86 x62 M83 _ _ c91) wl_523 wl_524 wl_525 wl_75 wl_517 hd_X8_setLawSigns ⟨Nat.le_of_ble_eq_true rfl, Nat.le_of_ble_eq_true rfl⟩ ⟨Nat.le_refl _, Nat.le_refl _⟩ (Nat.le_of_ble_eq_true rfl) rfl dX8_readLaw_91 ?_
      refine x_aload_n F dX8_readLaw_94 rfl 1 rfl ?_
      refine x_dup F dX8_readLaw_95 rfl ?_
      obtain ⟨x96, c96, h⟩ := bdS h
      refine x_getI F (ci := 8) (C := RX8) (T := TX8) (N := 17) rfl ⟨by decide, rfl⟩ inU8 9 (by decide) (fun _ _ _ => rfl) wl_110 c96 dX8_readLaw_96 ?_
      refine x_iconst F (v := 1) dX8_readLaw_99 (by decide) ?_
      refine x_iadd F dX8_readLaw_100 ?_
      obtain ⟨M101, c101, h⟩ := bdS h
      refine x_putI F (ci := 8) (C := RX8) (T := TX8) (N := 17) rfl ⟨by decide, rfl⟩ inU8 tyX8_ok nmX8 9 (by decide) rfl rfl wl_110 c101 dX8_readLaw_101 ?_
      obtain ⟨rfl, rfl⟩ := retS h
      exact x_vret F hr hl dX8_readLaw_104
  show X p l e ({ frames := 4, cells := 0, slots := 0, locals := 100 * 4 }) s m args below meth c (MQ below (Qm b D cy none Mf) args s 0 0 (fun q => b ≤ q)) 5 b D cy 0 0 M 0 [(0, .ref (b + v0)), (1, .ref (b + v1))] []
  refine x_aload_n F dX8_readLaw_0 rfl 0 rfl ?_
  obtain ⟨x1, c1, h⟩ := bdS h
  refine x_getI F (ci := 8) (C := RX8) (T := TX8) (N := 17) rfl ⟨by decide, rfl⟩ inU8 9 (by decide) (fun _ _ _ => rfl) wl_110 c1 dX8_readLaw_1 ?_
  refine x_bipush F (v := 6) dX8_readLaw_4 (by decide) ?_
  refine x_icmp_lt F (tgt := 15) dX8_readLaw_6 (by decide) (fun c6 => ?_) (fun c6 => ?_)
  · rw [if_pos c6] at h
    refine x_aload_n F dX8_readLaw_15 rfl 1 rfl ?_
    obtain ⟨k16, h⟩ := gdS h
    obtain ⟨⟨u16, M16⟩, c16, h⟩ := bdS h
    dsimp only at h
    refine x_callV F (As := []) (rest := []) (res := none) (ci := 9) (q := (RX9, TX9, 12)) rfl (by decide) k16 (k_X9_advance l b D cy N v1 M _ _ c16) wl_506 wl_178 wl_179 wl_164 wl_174 hd_X9_advance ⟨Nat.le_of_ble_eq_true rfl, Nat.le_of_ble_eq_true rfl⟩ ⟨Nat.le_refl _, Nat.le_refl _⟩ (Nat.le_of_ble_eq_true rfl) rfl dX8_readLaw_16 ?_
    refine x_aload_n F dX8_readLaw_19 rfl 0 rfl ?_
    refine x_aload_n F dX8_readLaw_20 rfl 1 rfl ?_
    obtain ⟨k21, h⟩ := gdS h
    obtain ⟨⟨x21, M21⟩, c21, h⟩ := bdS h
    dsimp only at h
    refine x_callV F (As := [.ref (b + v1)]) (rest := []) (res := (some (.long x21))) (ci := 8) (q := (RX8, TX8, 17)) rfl (by decide) k21 (k_X8_takeNewName l b D cy N v0 v1 M16 _ _ c21) wl_509 wl_510 wl_511 wl_75 wl_507 hd_X8_takeNewName ⟨Nat.le_of_ble_eq_true rfl, Nat.le_of_ble_eq_true rfl⟩ ⟨Nat.le_refl _, Nat.le_refl _⟩ (Nat.le_of_ble_eq_true rfl) rfl dX8_readLaw_21 ?_
    refine x_lstore_n F (lv' := [(2, .long x21), (0, .ref (b + v0)), (1, .ref (b + v1))]) dX8_readLaw_24 rfl (by decide) rfl ?_
    refine x_aload_n F dX8_readLaw_25 rfl 2 rfl ?_
    obtain ⟨x26, c26, h⟩ := bdS h
    refine x_getI F (ci := 9) (C := RX9) (T := TX9) (N := 12) rfl ⟨by decide, rfl⟩ inU9 10 (by decide) (fun _ _ _ => rfl) wl_508 c26 dX8_readLaw_26 ?_
    refine x_if_ne F (tgt := 56) dX8_readLaw_29 (by decide) (fun c29 => ?_) (fun c29 => ?_)
    · rw [if_neg c29] at h
      refine x_sub [1, 2, 0] rfl ?_
      exact J56 v0 v1 x21 M21 h
    · rw [if_pos c29] at h
      refine x_aload_n F dX8_readLaw_32 rfl 2 rfl ?_
      obtain ⟨x33, c33, h⟩ := bdS h
      refine x_getI F (ci := 9) (C := RX9) (T := TX9) (N := 12) rfl ⟨by decide, rfl⟩ inU9 5 (by decide) (fun _ _ _ => rfl) wl_518 c33 dX8_readLaw_33 ?_
      refine x_iconst F (v := 2) dX8_readLaw_36 (by decide) ?_
      refine x_icmp_ne F (tgt := 56) dX8_readLaw_37 (by decide) (fun c37 => ?_) (fun c37 => ?_)
      · rw [if_neg c37] at h
        refine x_sub [1, 2, 0] rfl ?_
        exact J56 v0 v1 x21 M21 h
      · rw [if_pos c37] at h
        refine x_aload_n F dX8_readLaw_40 rfl 1 rfl ?_
        refine x_aload_n F dX8_readLaw_41 rfl 2 rfl ?_
        obtain ⟨x42, c42, h⟩ := bdS h
        refine x_getI F (ci := 9) (C := RX9) (T := TX9) (N := 12) rfl ⟨by decide, rfl⟩ inU9 7 (by decide) (fun _ _ _ => rfl) wl_519 c42 dX8_readLaw_42 ?_
        obtain ⟨k45, h⟩ := gdS h
        obtain ⟨⟨x45, M45⟩, c45, h⟩ := bdS h
        dsimp only at h
        refine x_callV F (As := [.int x42]) (rest := []) (res := (some (.int x45))) (ci := 8) (q := (RX8, TX8, 17)) rfl (by decide) k45 (k_X8_isLawNumber l b D cy N v0 x42 M21 _ _ c45) wl_520 wl_521 wl_522 wl_75 wl_516 hd_X8_isLawNumber ⟨Nat.le_of_ble_eq_true rfl, Nat.le_of_ble_eq_true rfl⟩ ⟨Nat.le_refl _, Nat.le_refl _⟩ (Nat.le_of_ble_eq_true rfl) rfl dX8_readLaw_45 ?_
        refine x_if_eq F (tgt := 56) dX8_readLaw_48 (by decide) (fun c48 => ?_) (fun c48 => ?_)
        · rw [if_pos c48] at h
          refine x_sub [1, 2, 0] rfl ?_
          exact J56 v0 v1 x21 M45 h
        · rw [if_neg c48] at h
          refine x_aload_n F dX8_readLaw_51 rfl 2 rfl ?_
          refine x_iconst F (v := 3) dX8_readLaw_52 (by decide) ?_
          obtain ⟨k53, h⟩ := gdS h
          obtain ⟨⟨u53, M53⟩, c53, h⟩ := bdS h
          dsimp only at h
          refine x_callV F (As := [.int 3]) (rest := []) (res := none) (ci := 9) (q := (RX9, TX9, 12)) rfl (by decide) k53 (k_X9_fail l b D cy N v1 3 M45 _ _ c53) wl_502 wl_185 wl_186 wl_164 wl_182 hd_X9_fail ⟨Nat.le_of_ble_eq_true rfl, Nat.le_of_ble_eq_true rfl⟩ ⟨Nat.le_refl _, Nat.le_refl _⟩ (Nat.le_of_ble_eq_true rfl) rfl dX8_readLaw_53 ?_
          refine x_sub [1, 2, 0] rfl ?_
          exact J56 v0 v1 x21 M53 h
  · rw [if_neg c6] at h
    refine x_aload_n F dX8_readLaw_9 rfl 1 rfl ?_
    refine x_iconst F (v := 4) dX8_readLaw_10 (by decide) ?_
    obtain ⟨k11, h⟩ := gdS h
    obtain ⟨⟨u11, M11⟩, c11, h⟩ := bdS h
    dsimp only at h
    refine x_callV F (As := [.int 4]) (rest := []) (res := none) (ci := 9) (q := (RX9, TX9, 12)) rfl (by decide) k11 (k_X9_fail l b D cy N v1 4 M _ _ c11) wl_502 wl_185 wl_186 wl_164 wl_182 hd_X9_fail ⟨Nat.le_of_ble_eq_true rfl, Nat.le_of_ble_eq_true rfl⟩ ⟨Nat.le_refl _, Nat.le_refl _⟩ (Nat.le_of_ble_eq_true rfl) rfl dX8_readLaw_11 ?_
    obtain ⟨rfl, rfl⟩ := retS h
    exact x_vret F hr hl dX8_readLaw_14
theorem dX8_readTide_0 : decode cX8_readTide 0 = .ok (.aload_n 0, 1) := by decide +kernel
theorem dX8_readTide_1 : decode cX8_readTide 1 = .ok (.getfield 26, 3) := by decide +kernel
theorem dX8_readTide_4 : decode cX8_readTide 4 = .ok (.bipush 8, 2) := by decide +kernel
theorem dX8_readTide_6 : decode cX8_readTide 6 = .ok (.if_icmp .lt 9, 3) := by decide +kernel
theorem dX8_readTide_9 : decode cX8_readTide 9 = .ok (.aload_n 1, 1) := by decide +kernel
theorem dX8_readTide_10 : decode cX8_readTide 10 = .ok (.iconst 4, 1) := by decide +kernel
theorem dX8_readTide_11 : decode cX8_readTide 11 = .ok (.invokevirtual 109, 3) := by decide +kernel
theorem dX8_readTide_14 : decode cX8_readTide 14 = .ok (.return_, 1) := by decide +kernel
theorem dX8_readTide_15 : decode cX8_readTide 15 = .ok (.aload_n 1, 1) := by decide +kernel
theorem dX8_readTide_16 : decode cX8_readTide 16 = .ok (.invokevirtual 112, 3) := by decide +kernel
theorem dX8_readTide_19 : decode cX8_readTide 19 = .ok (.aload_n 1, 1) := by decide +kernel
theorem dX8_readTide_20 : decode cX8_readTide 20 = .ok (.iconst 0, 1) := by decide +kernel
theorem dX8_readTide_21 : decode cX8_readTide 21 = .ok (.bipush 9, 2) := by decide +kernel
theorem dX8_readTide_23 : decode cX8_readTide 23 = .ok (.invokevirtual 119, 3) := by decide +kernel
theorem dX8_readTide_26 : decode cX8_readTide 26 = .ok (.istore_n 2, 1) := by decide +kernel
theorem dX8_readTide_27 : decode cX8_readTide 27 = .ok (.aload_n 1, 1) := by decide +kernel
theorem dX8_readTide_28 : decode cX8_readTide 28 = .ok (.getfield 78, 3) := by decide +kernel
theorem dX8_readTide_31 : decode cX8_readTide 31 = .ok (.ifCond .ne 23, 3) := by decide +kernel
theorem dX8_readTide_34 : decode cX8_readTide 34 = .ok (.aload_n 0, 1) := by decide +kernel
theorem dX8_readTide_35 : decode cX8_readTide 35 = .ok (.getfield 29, 3) := by decide +kernel
theorem dX8_readTide_38 : decode cX8_readTide 38 = .ok (.aload_n 0, 1) := by decide +kernel
theorem dX8_readTide_39 : decode cX8_readTide 39 = .ok (.getfield 26, 3) := by decide +kernel
theorem dX8_readTide_42 : decode cX8_readTide 42 = .ok (.iload_n 2, 1) := by decide +kernel
theorem dX8_readTide_43 : decode cX8_readTide 43 = .ok (.iastore, 1) := by decide +kernel
theorem dX8_readTide_44 : decode cX8_readTide 44 = .ok (.aload_n 0, 1) := by decide +kernel
theorem dX8_readTide_45 : decode cX8_readTide 45 = .ok (.dup, 1) := by decide +kernel
theorem dX8_readTide_46 : decode cX8_readTide 46 = .ok (.getfield 26, 3) := by decide +kernel
theorem dX8_readTide_49 : decode cX8_readTide 49 = .ok (.iconst 1, 1) := by decide +kernel
theorem dX8_readTide_50 : decode cX8_readTide 50 = .ok (.iadd, 1) := by decide +kernel
theorem dX8_readTide_51 : decode cX8_readTide 51 = .ok (.putfield 26, 3) := by decide +kernel
theorem dX8_readTide_54 : decode cX8_readTide 54 = .ok (.return_, 1) := by decide +kernel
def fX8_readTide (N : Nat) (v0 : Nat) (v1 : Nat) (M : Mem) : Option (Unit × Mem) := ((fI M 8 v0 4).bind fun x1 => (if x1 < 8 then (if mK M v1 = 10 then ((fX9_advance N v1 M).bind fun (u16, M16) => (if mK M16 v1 = 10 then ((fX9_takeNumber N v1 0 9 M16).bind fun (x23, M23) => ((fI M23 9 v1 10).bind fun x28 => (if x28 = 0 then ((fR M23 8 v0 5).bind fun x35 => ((fI M23 8 v0 4).bind fun x39 => ((tI M23 x35 x39 x23).bind fun M43 => ((fI M43 8 v0 4).bind fun x46 => ((pI M43 8 v0 4 (x46 + 1)).bind fun M51 => some ((), M51)))))) else some ((), M23)))) else none)) else none) else (if mK M v1 = 10 then ((fX9_fail N v1 4 M).bind fun (u11, M11) => some ((), M11)) else none)))
set_option maxHeartbeats 4000000 in
set_option maxRecDepth 100000 in
theorem k_X8_readTide (l : Launch) (b : Nat) (D : va_G) (cy : Nat → ClassId) (N : Nat) (v0 : Nat) (v1 : Nat) (M : Mem) (r : Unit) (Mf : Mem) (h : fX8_readTide N v0 v1 M = some (r, Mf)) : Ct l yX8_readTide cX8_readTide 3 none 4 0 0 b D cy [.ref (b + v0), .ref (b + v1)] M none Mf := by
  refine Ct_of (own := RX8) (by decide) rfl (Nat.le_of_ble_eq_true rfl) ?_
  intro p e s m args below meth c F hr hl hmn
  unfold fX8_readTide at h
  show X p l e ({ frames := 4, cells := 0, slots := 0, locals := 100 * 4 }) s m args below meth c (MQ below (Qm b D cy none Mf) args s 0 0 (fun q => b ≤ q)) 3 b D cy 0 0 M 0 [(0, .ref (b + v0)), (1, .ref (b + v1))] []
  refine x_aload_n F dX8_readTide_0 rfl 0 rfl ?_
  obtain ⟨x1, c1, h⟩ := bdS h
  refine x_getI F (ci := 8) (C := RX8) (T := TX8) (N := 17) rfl ⟨by decide, rfl⟩ inU8 4 (by decide) (fun _ _ _ => rfl) wl_37 c1 dX8_readTide_1 ?_
  refine x_bipush F (v := 8) dX8_readTide_4 (by decide) ?_
  refine x_icmp_lt F (tgt := 15) dX8_readTide_6 (by decide) (fun c6 => ?_) (fun c6 => ?_)
  · rw [if_pos c6] at h
    refine x_aload_n F dX8_readTide_15 rfl 1 rfl ?_
    obtain ⟨k16, h⟩ := gdS h
    obtain ⟨⟨u16, M16⟩, c16, h⟩ := bdS h
    dsimp only at h
    refine x_callV F (As := []) (rest := []) (res := none) (ci := 9) (q := (RX9, TX9, 12)) rfl (by decide) k16 (k_X9_advance l b D cy N v1 M _ _ c16) wl_506 wl_178 wl_179 wl_164 wl_174 hd_X9_advance ⟨Nat.le_of_ble_eq_true rfl, Nat.le_of_ble_eq_true rfl⟩ ⟨Nat.le_refl _, Nat.le_refl _⟩ (Nat.le_of_ble_eq_true rfl) rfl dX8_readTide_16 ?_
    refine x_aload_n F dX8_readTide_19 rfl 1 rfl ?_
    refine x_iconst F (v := 0) dX8_readTide_20 (by decide) ?_
    refine x_bipush F (v := 9) dX8_readTide_21 (by decide) ?_
    obtain ⟨k23, h⟩ := gdS h
    obtain ⟨⟨x23, M23⟩, c23, h⟩ := bdS h
    dsimp only at h
    refine x_callV F (As := [.int 0, .int 9]) (rest := []) (res := (some (.int x23))) (ci := 9) (q := (RX9, TX9, 12)) rfl (by decide) k23 (k_X9_takeNumber l b D cy N v1 0 9 M16 _ _ c23) wl_512 wl_203 wl_204 wl_164 wl_187 hd_X9_takeNumber ⟨Nat.le_of_ble_eq_true rfl, Nat.le_of_ble_eq_true rfl⟩ ⟨Nat.le_refl _, Nat.le_refl _⟩ (Nat.le_of_ble_eq_true rfl) rfl dX8_readTide_23 ?_
    refine x_istore_n F (lv' := [(2, .int x23), (0, .ref (b + v0)), (1, .ref (b + v1))]) dX8_readTide_26 rfl (by decide) rfl ?_
    refine x_aload_n F dX8_readTide_27 rfl 2 rfl ?_
    obtain ⟨x28, c28, h⟩ := bdS h
    refine x_getI F (ci := 9) (C := RX9) (T := TX9) (N := 12) rfl ⟨by decide, rfl⟩ inU9 10 (by decide) (fun _ _ _ => rfl) wl_508 c28 dX8_readTide_28 ?_
    refine x_if_ne F (tgt := 54) dX8_readTide_31 (by decide) (fun c31 => ?_) (fun c31 => ?_)
    · rw [if_neg c31] at h
      obtain ⟨rfl, rfl⟩ := retS h
      exact x_vret F hr hl dX8_readTide_54
    · rw [if_pos c31] at h
      refine x_aload_n F dX8_readTide_34 rfl 1 rfl ?_
      obtain ⟨x35, c35, h⟩ := bdS h
      refine x_getR F (ci := 8) (C := RX8) (T := TX8) (N := 17) rfl ⟨by decide, rfl⟩ inU8 5 (by decide) (fun _ _ _ => rfl) wl_38 c35 dX8_readTide_35 ?_
      refine x_aload_n F dX8_readTide_38 rfl 1 rfl ?_
      obtain ⟨x39, c39, h⟩ := bdS h
      refine x_getI F (ci := 8) (C := RX8) (T := TX8) (N := 17) rfl ⟨by decide, rfl⟩ inU8 4 (by decide) (fun _ _ _ => rfl) wl_37 c39 dX8_readTide_39 ?_
      refine x_iload_n F dX8_readTide_42 rfl 0 rfl ?_
      obtain ⟨M43, c43, h⟩ := bdS h
      refine x_tI F c43 dX8_readTide_43 ?_
      refine x_aload_n F dX8_readTide_44 rfl 1 rfl ?_
      refine x_dup F dX8_readTide_45 rfl ?_
      obtain ⟨x46, c46, h⟩ := bdS h
      refine x_getI F (ci := 8) (C := RX8) (T := TX8) (N := 17) rfl ⟨by decide, rfl⟩ inU8 4 (by decide) (fun _ _ _ => rfl) wl_37 c46 dX8_readTide_46 ?_
      refine x_iconst F (v := 1) dX8_readTide_49 (by decide) ?_
      refine x_iadd F dX8_readTide_50 ?_
      obtain ⟨M51, c51, h⟩ := bdS h
      refine x_putI F (ci := 8) (C := RX8) (T := TX8) (N := 17) rfl ⟨by decide, rfl⟩ inU8 tyX8_ok nmX8 4 (by decide) rfl rfl wl_37 c51 dX8_readTide_51 ?_
      obtain ⟨rfl, rfl⟩ := retS h
      exact x_vret F hr hl dX8_readTide_54
  · rw [if_neg c6] at h
    refine x_aload_n F dX8_readTide_9 rfl 1 rfl ?_
    refine x_iconst F (v := 4) dX8_readTide_10 (by decide) ?_
    obtain ⟨k11, h⟩ := gdS h
    obtain ⟨⟨u11, M11⟩, c11, h⟩ := bdS h
    dsimp only at h
    refine x_callV F (As := [.int 4]) (rest := []) (res := none) (ci := 9) (q := (RX9, TX9, 12)) rfl (by decide) k11 (k_X9_fail l b D cy N v1 4 M _ _ c11) wl_502 wl_185 wl_186 wl_164 wl_182 hd_X9_fail ⟨Nat.le_of_ble_eq_true rfl, Nat.le_of_ble_eq_true rfl⟩ ⟨Nat.le_refl _, Nat.le_refl _⟩ (Nat.le_of_ble_eq_true rfl) rfl dX8_readTide_11 ?_
    obtain ⟨rfl, rfl⟩ := retS h
    exact x_vret F hr hl dX8_readTide_14
theorem dX8_readWriter_0 : decode cX8_readWriter 0 = .ok (.aload_n 0, 1) := by decide +kernel
theorem dX8_readWriter_1 : decode cX8_readWriter 1 = .ok (.getfield 32, 3) := by decide +kernel
theorem dX8_readWriter_4 : decode cX8_readWriter 4 = .ok (.iconst 4, 1) := by decide +kernel
theorem dX8_readWriter_5 : decode cX8_readWriter 5 = .ok (.if_icmp .lt 9, 3) := by decide +kernel
theorem dX8_readWriter_8 : decode cX8_readWriter 8 = .ok (.aload_n 1, 1) := by decide +kernel
theorem dX8_readWriter_9 : decode cX8_readWriter 9 = .ok (.iconst 4, 1) := by decide +kernel
theorem dX8_readWriter_10 : decode cX8_readWriter 10 = .ok (.invokevirtual 109, 3) := by decide +kernel
theorem dX8_readWriter_13 : decode cX8_readWriter 13 = .ok (.return_, 1) := by decide +kernel
theorem dX8_readWriter_14 : decode cX8_readWriter 14 = .ok (.aload_n 1, 1) := by decide +kernel
theorem dX8_readWriter_15 : decode cX8_readWriter 15 = .ok (.invokevirtual 112, 3) := by decide +kernel
theorem dX8_readWriter_18 : decode cX8_readWriter 18 = .ok (.aload_n 0, 1) := by decide +kernel
theorem dX8_readWriter_19 : decode cX8_readWriter 19 = .ok (.aload_n 1, 1) := by decide +kernel
theorem dX8_readWriter_20 : decode cX8_readWriter 20 = .ok (.invokevirtual 115, 3) := by decide +kernel
theorem dX8_readWriter_23 : decode cX8_readWriter 23 = .ok (.lstore_n 2, 1) := by decide +kernel
theorem dX8_readWriter_24 : decode cX8_readWriter 24 = .ok (.aload_n 1, 1) := by decide +kernel
theorem dX8_readWriter_25 : decode cX8_readWriter 25 = .ok (.iconst 1, 1) := by decide +kernel
theorem dX8_readWriter_26 : decode cX8_readWriter 26 = .ok (.bipush 9, 2) := by decide +kernel
theorem dX8_readWriter_28 : decode cX8_readWriter 28 = .ok (.invokevirtual 119, 3) := by decide +kernel
theorem dX8_readWriter_31 : decode cX8_readWriter 31 = .ok (.istore 4, 2) := by decide +kernel
theorem dX8_readWriter_33 : decode cX8_readWriter 33 = .ok (.aload_n 1, 1) := by decide +kernel
theorem dX8_readWriter_34 : decode cX8_readWriter 34 = .ok (.getfield 78, 3) := by decide +kernel
theorem dX8_readWriter_37 : decode cX8_readWriter 37 = .ok (.ifCond .ne 34, 3) := by decide +kernel
theorem dX8_readWriter_40 : decode cX8_readWriter 40 = .ok (.aload_n 0, 1) := by decide +kernel
theorem dX8_readWriter_41 : decode cX8_readWriter 41 = .ok (.getfield 35, 3) := by decide +kernel
theorem dX8_readWriter_44 : decode cX8_readWriter 44 = .ok (.aload_n 0, 1) := by decide +kernel
theorem dX8_readWriter_45 : decode cX8_readWriter 45 = .ok (.getfield 32, 3) := by decide +kernel
theorem dX8_readWriter_48 : decode cX8_readWriter 48 = .ok (.lload_n 2, 1) := by decide +kernel
theorem dX8_readWriter_49 : decode cX8_readWriter 49 = .ok (.lastore, 1) := by decide +kernel
theorem dX8_readWriter_50 : decode cX8_readWriter 50 = .ok (.aload_n 0, 1) := by decide +kernel
theorem dX8_readWriter_51 : decode cX8_readWriter 51 = .ok (.getfield 38, 3) := by decide +kernel
theorem dX8_readWriter_54 : decode cX8_readWriter 54 = .ok (.aload_n 0, 1) := by decide +kernel
theorem dX8_readWriter_55 : decode cX8_readWriter 55 = .ok (.getfield 32, 3) := by decide +kernel
theorem dX8_readWriter_58 : decode cX8_readWriter 58 = .ok (.iload 4, 2) := by decide +kernel
theorem dX8_readWriter_60 : decode cX8_readWriter 60 = .ok (.iastore, 1) := by decide +kernel
theorem dX8_readWriter_61 : decode cX8_readWriter 61 = .ok (.aload_n 0, 1) := by decide +kernel
theorem dX8_readWriter_62 : decode cX8_readWriter 62 = .ok (.dup, 1) := by decide +kernel
theorem dX8_readWriter_63 : decode cX8_readWriter 63 = .ok (.getfield 32, 3) := by decide +kernel
theorem dX8_readWriter_66 : decode cX8_readWriter 66 = .ok (.iconst 1, 1) := by decide +kernel
theorem dX8_readWriter_67 : decode cX8_readWriter 67 = .ok (.iadd, 1) := by decide +kernel
theorem dX8_readWriter_68 : decode cX8_readWriter 68 = .ok (.putfield 32, 3) := by decide +kernel
theorem dX8_readWriter_71 : decode cX8_readWriter 71 = .ok (.return_, 1) := by decide +kernel
def fX8_readWriter (N : Nat) (v0 : Nat) (v1 : Nat) (M : Mem) : Option (Unit × Mem) := ((fI M 8 v0 6).bind fun x1 => (if x1 < 4 then (if mK M v1 = 10 then ((fX9_advance N v1 M).bind fun (u15, M15) => (if mK M15 v0 = 9 then ((fX8_takeNewName N v0 v1 M15).bind fun (x20, M20) => (if mK M20 v1 = 10 then ((fX9_takeNumber N v1 1 9 M20).bind fun (x28, M28) => ((fI M28 9 v1 10).bind fun x34 => (if x34 = 0 then ((fR M28 8 v0 7).bind fun x41 => ((fI M28 8 v0 6).bind fun x45 => ((tL M28 x41 x45 x20).bind fun M49 => ((fR M49 8 v0 8).bind fun x51 => ((fI M49 8 v0 6).bind fun x55 => ((tI M49 x51 x55 x28).bind fun M60 => ((fI M60 8 v0 6).bind fun x63 => ((pI M60 8 v0 6 (x63 + 1)).bind fun M68 => some ((), M68))))))))) else some ((), M28)))) else none)) else none)) else none) else (if mK M v1 = 10 then ((fX9_fail N v1 4 M).bind fun (u10, M10) => some ((), M10)) else none)))
set_option maxHeartbeats 4000000 in
set_option maxRecDepth 100000 in
theorem k_X8_readWriter (l : Launch) (b : Nat) (D : va_G) (cy : Nat → ClassId) (N : Nat) (v0 : Nat) (v1 : Nat) (M : Mem) (r : Unit) (Mf : Mem) (h : fX8_readWriter N v0 v1 M = some (r, Mf)) : Ct l yX8_readWriter cX8_readWriter 5 none 4 0 0 b D cy [.ref (b + v0), .ref (b + v1)] M none Mf := by
  refine Ct_of (own := RX8) (by decide) rfl (Nat.le_of_ble_eq_true rfl) ?_
  intro p e s m args below meth c F hr hl hmn
  unfold fX8_readWriter at h
  show X p l e ({ frames := 4, cells := 0, slots := 0, locals := 100 * 4 }) s m args below meth c (MQ below (Qm b D cy none Mf) args s 0 0 (fun q => b ≤ q)) 5 b D cy 0 0 M 0 [(0, .ref (b + v0)), (1, .ref (b + v1))] []
  refine x_aload_n F dX8_readWriter_0 rfl 0 rfl ?_
  obtain ⟨x1, c1, h⟩ := bdS h
  refine x_getI F (ci := 8) (C := RX8) (T := TX8) (N := 17) rfl ⟨by decide, rfl⟩ inU8 6 (by decide) (fun _ _ _ => rfl) wl_488 c1 dX8_readWriter_1 ?_
  refine x_iconst F (v := 4) dX8_readWriter_4 (by decide) ?_
  refine x_icmp_lt F (tgt := 14) dX8_readWriter_5 (by decide) (fun c5 => ?_) (fun c5 => ?_)
  · rw [if_pos c5] at h
    refine x_aload_n F dX8_readWriter_14 rfl 1 rfl ?_
    obtain ⟨k15, h⟩ := gdS h
    obtain ⟨⟨u15, M15⟩, c15, h⟩ := bdS h
    dsimp only at h
    refine x_callV F (As := []) (rest := []) (res := none) (ci := 9) (q := (RX9, TX9, 12)) rfl (by decide) k15 (k_X9_advance l b D cy N v1 M _ _ c15) wl_506 wl_178 wl_179 wl_164 wl_174 hd_X9_advance ⟨Nat.le_of_ble_eq_true rfl, Nat.le_of_ble_eq_true rfl⟩ ⟨Nat.le_refl _, Nat.le_refl _⟩ (Nat.le_of_ble_eq_true rfl) rfl dX8_readWriter_15 ?_
    refine x_aload_n F dX8_readWriter_18 rfl 0 rfl ?_
    refine x_aload_n F dX8_readWriter_19 rfl 1 rfl ?_
    obtain ⟨k20, h⟩ := gdS h
    obtain ⟨⟨x20, M20⟩, c20, h⟩ := bdS h
    dsimp only at h
    refine x_callV F (As := [.ref (b + v1)]) (rest := []) (res := (some (.long x20))) (ci := 8) (q := (RX8, TX8, 17)) rfl (by decide) k20 (k_X8_takeNewName l b D cy N v0 v1 M15 _ _ c20) wl_509 wl_510 wl_511 wl_75 wl_507 hd_X8_takeNewName ⟨Nat.le_of_ble_eq_true rfl, Nat.le_of_ble_eq_true rfl⟩ ⟨Nat.le_refl _, Nat.le_refl _⟩ (Nat.le_of_ble_eq_true rfl) rfl dX8_readWriter_20 ?_
    refine x_lstore_n F (lv' := [(2, .long x20), (0, .ref (b + v0)), (1, .ref (b + v1))]) dX8_readWriter_23 rfl (by decide) rfl ?_
    refine x_aload_n F dX8_readWriter_24 rfl 2 rfl ?_
    refine x_iconst F (v := 1) dX8_readWriter_25 (by decide) ?_
    refine x_bipush F (v := 9) dX8_readWriter_26 (by decide) ?_
    obtain ⟨k28, h⟩ := gdS h
    obtain ⟨⟨x28, M28⟩, c28, h⟩ := bdS h
    dsimp only at h
    refine x_callV F (As := [.int 1, .int 9]) (rest := []) (res := (some (.int x28))) (ci := 9) (q := (RX9, TX9, 12)) rfl (by decide) k28 (k_X9_takeNumber l b D cy N v1 1 9 M20 _ _ c28) wl_512 wl_203 wl_204 wl_164 wl_187 hd_X9_takeNumber ⟨Nat.le_of_ble_eq_true rfl, Nat.le_of_ble_eq_true rfl⟩ ⟨Nat.le_refl _, Nat.le_refl _⟩ (Nat.le_of_ble_eq_true rfl) rfl dX8_readWriter_28 ?_
    refine x_istore F (lv' := [(4, .int x28), (2, .long x20), (0, .ref (b + v0)), (1, .ref (b + v1))]) dX8_readWriter_31 (by decide) rfl ?_
    refine x_aload_n F dX8_readWriter_33 rfl 3 rfl ?_
    obtain ⟨x34, c34, h⟩ := bdS h
    refine x_getI F (ci := 9) (C := RX9) (T := TX9) (N := 12) rfl ⟨by decide, rfl⟩ inU9 10 (by decide) (fun _ _ _ => rfl) wl_508 c34 dX8_readWriter_34 ?_
    refine x_if_ne F (tgt := 71) dX8_readWriter_37 (by decide) (fun c37 => ?_) (fun c37 => ?_)
    · rw [if_neg c37] at h
      obtain ⟨rfl, rfl⟩ := retS h
      exact x_vret F hr hl dX8_readWriter_71
    · rw [if_pos c37] at h
      refine x_aload_n F dX8_readWriter_40 rfl 2 rfl ?_
      obtain ⟨x41, c41, h⟩ := bdS h
      refine x_getR F (ci := 8) (C := RX8) (T := TX8) (N := 17) rfl ⟨by decide, rfl⟩ inU8 7 (by decide) (fun _ _ _ => rfl) wl_489 c41 dX8_readWriter_41 ?_
      refine x_aload_n F dX8_readWriter_44 rfl 2 rfl ?_
      obtain ⟨x45, c45, h⟩ := bdS h
      refine x_getI F (ci := 8) (C := RX8) (T := TX8) (N := 17) rfl ⟨by decide, rfl⟩ inU8 6 (by decide) (fun _ _ _ => rfl) wl_488 c45 dX8_readWriter_45 ?_
      refine x_lload_n F dX8_readWriter_48 rfl 1 rfl ?_
      obtain ⟨M49, c49, h⟩ := bdS h
      refine x_tL F c49 dX8_readWriter_49 ?_
      refine x_aload_n F dX8_readWriter_50 rfl 2 rfl ?_
      obtain ⟨x51, c51, h⟩ := bdS h
      refine x_getR F (ci := 8) (C := RX8) (T := TX8) (N := 17) rfl ⟨by decide, rfl⟩ inU8 8 (by decide) (fun _ _ _ => rfl) wl_490 c51 dX8_readWriter_51 ?_
      refine x_aload_n F dX8_readWriter_54 rfl 2 rfl ?_
      obtain ⟨x55, c55, h⟩ := bdS h
      refine x_getI F (ci := 8) (C := RX8) (T := TX8) (N := 17) rfl ⟨by decide, rfl⟩ inU8 6 (by decide) (fun _ _ _ => rfl) wl_488 c55 dX8_readWriter_55 ?_
      refine x_iload F dX8_readWriter_58 0 rfl ?_
      obtain ⟨M60, c60, h⟩ := bdS h
      refine x_tI F c60 dX8_readWriter_60 ?_
      refine x_aload_n F dX8_readWriter_61 rfl 2 rfl ?_
      refine x_dup F dX8_readWriter_62 rfl ?_
      obtain ⟨x63, c63, h⟩ := bdS h
      refine x_getI F (ci := 8) (C := RX8) (T := TX8) (N := 17) rfl ⟨by decide, rfl⟩ inU8 6 (by decide) (fun _ _ _ => rfl) wl_488 c63 dX8_readWriter_63 ?_
      refine x_iconst F (v := 1) dX8_readWriter_66 (by decide) ?_
      refine x_iadd F dX8_readWriter_67 ?_
      obtain ⟨M68, c68, h⟩ := bdS h
      refine x_putI F (ci := 8) (C := RX8) (T := TX8) (N := 17) rfl ⟨by decide, rfl⟩ inU8 tyX8_ok nmX8 6 (by decide) rfl rfl wl_488 c68 dX8_readWriter_68 ?_
      obtain ⟨rfl, rfl⟩ := retS h
      exact x_vret F hr hl dX8_readWriter_71
  · rw [if_neg c5] at h
    refine x_aload_n F dX8_readWriter_8 rfl 1 rfl ?_
    refine x_iconst F (v := 4) dX8_readWriter_9 (by decide) ?_
    obtain ⟨k10, h⟩ := gdS h
    obtain ⟨⟨u10, M10⟩, c10, h⟩ := bdS h
    dsimp only at h
    refine x_callV F (As := [.int 4]) (rest := []) (res := none) (ci := 9) (q := (RX9, TX9, 12)) rfl (by decide) k10 (k_X9_fail l b D cy N v1 4 M _ _ c10) wl_502 wl_185 wl_186 wl_164 wl_182 hd_X9_fail ⟨Nat.le_of_ble_eq_true rfl, Nat.le_of_ble_eq_true rfl⟩ ⟨Nat.le_refl _, Nat.le_refl _⟩ (Nat.le_of_ble_eq_true rfl) rfl dX8_readWriter_10 ?_
    obtain ⟨rfl, rfl⟩ := retS h
    exact x_vret F hr hl dX8_readWriter_13
theorem hd_X8_readBand : (yX8_readBand).cls = RX8 ∧ (yX8_readBand).cls ≠ "java/lang/invoke/MethodHandle" ∧ (yX8_readBand).cls ≠ "java/lang/invoke/VarHandle" ∧ (parseMethodDescriptor (yX8_readBand).desc).map (fun d => d.parameters.length) = some 1 := by decide +kernel
theorem hd_X8_readTide : (yX8_readTide).cls = RX8 ∧ (yX8_readTide).cls ≠ "java/lang/invoke/MethodHandle" ∧ (yX8_readTide).cls ≠ "java/lang/invoke/VarHandle" ∧ (parseMethodDescriptor (yX8_readTide).desc).map (fun d => d.parameters.length) = some 1 := by decide +kernel
theorem hd_X8_readWriter : (yX8_readWriter).cls = RX8 ∧ (yX8_readWriter).cls ≠ "java/lang/invoke/MethodHandle" ∧ (yX8_readWriter).cls ≠ "java/lang/invoke/VarHandle" ∧ (parseMethodDescriptor (yX8_readWriter).desc).map (fun d => d.parameters.length) = some 1 := by decide +kernel
theorem hd_X8_readLaw : (yX8_readLaw).cls = RX8 ∧ (yX8_readLaw).cls ≠ "java/lang/invoke/MethodHandle" ∧ (yX8_readLaw).cls ≠ "java/lang/invoke/VarHandle" ∧ (parseMethodDescriptor (yX8_readLaw).desc).map (fun d => d.parameters.length) = some 1 := by decide +kernel
theorem hd_X8_readLapse : (yX8_readLapse).cls = RX8 ∧ (yX8_readLapse).cls ≠ "java/lang/invoke/MethodHandle" ∧ (yX8_readLapse).cls ≠ "java/lang/invoke/VarHandle" ∧ (parseMethodDescriptor (yX8_readLapse).desc).map (fun d => d.parameters.length) = some 1 := by decide +kernel
theorem dX8_readLine_0 : decode cX8_readLine 0 = .ok (.aload_n 1, 1) := by decide +kernel
theorem dX8_readLine_1 : decode cX8_readLine 1 = .ok (.getfield 91, 3) := by decide +kernel
theorem dX8_readLine_4 : decode cX8_readLine 4 = .ok (.tableswitch 76 0 4 #[36, 44, 52, 60, 68], 36) := by decide +kernel
theorem dX8_readLine_40 : decode cX8_readLine 40 = .ok (.aload_n 0, 1) := by decide +kernel
theorem dX8_readLine_41 : decode cX8_readLine 41 = .ok (.aload_n 1, 1) := by decide +kernel
theorem dX8_readLine_42 : decode cX8_readLine 42 = .ok (.invokevirtual 94, 3) := by decide +kernel
theorem dX8_readLine_45 : decode cX8_readLine 45 = .ok (.goto 40, 3) := by decide +kernel
theorem dX8_readLine_48 : decode cX8_readLine 48 = .ok (.aload_n 0, 1) := by decide +kernel
theorem dX8_readLine_49 : decode cX8_readLine 49 = .ok (.aload_n 1, 1) := by decide +kernel
theorem dX8_readLine_50 : decode cX8_readLine 50 = .ok (.invokevirtual 97, 3) := by decide +kernel
theorem dX8_readLine_53 : decode cX8_readLine 53 = .ok (.goto 32, 3) := by decide +kernel
theorem dX8_readLine_56 : decode cX8_readLine 56 = .ok (.aload_n 0, 1) := by decide +kernel
theorem dX8_readLine_57 : decode cX8_readLine 57 = .ok (.aload_n 1, 1) := by decide +kernel
theorem dX8_readLine_58 : decode cX8_readLine 58 = .ok (.invokevirtual 100, 3) := by decide +kernel
theorem dX8_readLine_61 : decode cX8_readLine 61 = .ok (.goto 24, 3) := by decide +kernel
theorem dX8_readLine_64 : decode cX8_readLine 64 = .ok (.aload_n 0, 1) := by decide +kernel
theorem dX8_readLine_65 : decode cX8_readLine 65 = .ok (.aload_n 1, 1) := by decide +kernel
theorem dX8_readLine_66 : decode cX8_readLine 66 = .ok (.invokevirtual 103, 3) := by decide +kernel
theorem dX8_readLine_69 : decode cX8_readLine 69 = .ok (.goto 16, 3) := by decide +kernel
theorem dX8_readLine_72 : decode cX8_readLine 72 = .ok (.aload_n 0, 1) := by decide +kernel
theorem dX8_readLine_73 : decode cX8_readLine 73 = .ok (.aload_n 1, 1) := by decide +kernel
theorem dX8_readLine_74 : decode cX8_readLine 74 = .ok (.invokevirtual 106, 3) := by decide +kernel
theorem dX8_readLine_77 : decode cX8_readLine 77 = .ok (.goto 8, 3) := by decide +kernel
theorem dX8_readLine_80 : decode cX8_readLine 80 = .ok (.aload_n 1, 1) := by decide +kernel
theorem dX8_readLine_81 : decode cX8_readLine 81 = .ok (.iconst 1, 1) := by decide +kernel
theorem dX8_readLine_82 : decode cX8_readLine 82 = .ok (.invokevirtual 109, 3) := by decide +kernel
theorem dX8_readLine_85 : decode cX8_readLine 85 = .ok (.return_, 1) := by decide +kernel
def fX8_readLine (N : Nat) (v0 : Nat) (v1 : Nat) (M : Mem) : Option (Unit × Mem) := ((fI M 9 v1 9).bind fun x1 => (if x1 = 0 then (if mK M v0 = 9 then ((fX8_readBand N v0 v1 M).bind fun (u42, M42) => some ((), M42)) else none) else (if x1 = 1 then (if mK M v0 = 9 then ((fX8_readTide N v0 v1 M).bind fun (u50, M50) => some ((), M50)) else none) else (if x1 = 2 then (if mK M v0 = 9 then ((fX8_readWriter N v0 v1 M).bind fun (u58, M58) => some ((), M58)) else none) else (if x1 = 3 then (if mK M v0 = 9 then ((fX8_readLaw N v0 v1 M).bind fun (u66, M66) => some ((), M66)) else none) else (if x1 = 4 then (if mK M v0 = 9 then ((fX8_readLapse N v0 v1 M).bind fun (u74, M74) => some ((), M74)) else none) else (if mK M v1 = 10 then ((fX9_fail N v1 1 M).bind fun (u82, M82) => some ((), M82)) else none)))))))
set_option maxHeartbeats 4000000 in
set_option maxRecDepth 100000 in
theorem k_X8_readLine (l : Launch) (b : Nat) (D : va_G) (cy : Nat → ClassId) (N : Nat) (v0 : Nat) (v1 : Nat) (M : Mem) (r : Unit) (Mf : Mem) (h : fX8_readLine N v0 v1 M = some (r, Mf)) : Ct l yX8_readLine cX8_readLine 2 none 5 0 0 b D cy [.ref (b + v0), .ref (b + v1)] M none Mf := by
  refine Ct_of (own := RX8) (by decide) rfl (Nat.le_of_ble_eq_true rfl) ?_
  intro p e s m args below meth c F hr hl hmn
  unfold fX8_readLine at h
  show X p l e ({ frames := 5, cells := 0, slots := 0, locals := 100 * 5 }) s m args below meth c (MQ below (Qm b D cy none Mf) args s 0 0 (fun q => b ≤ q)) 2 b D cy 0 0 M 0 [(0, .ref (b + v0)), (1, .ref (b + v1))] []
  refine x_aload_n F dX8_readLine_0 rfl 1 rfl ?_
  obtain ⟨x1, c1, h⟩ := bdS h
  refine x_getI F (ci := 9) (C := RX9) (T := TX9) (N := 12) rfl ⟨by decide, rfl⟩ inU9 9 (by decide) (fun _ _ _ => rfl) wl_528 c1 dX8_readLine_1 ?_
  by_cases c4_0 : x1 = 0
  · rw [if_pos c4_0] at h
    refine x_tableIn F (off := 36) (tgt := 40) dX8_readLine_4 (by rw [c4_0]; decide) (by rw [c4_0]; decide) (by rw [c4_0]; decide) (by decide) ?_
    refine x_aload_n F dX8_readLine_40 rfl 0 rfl ?_
    refine x_aload_n F dX8_readLine_41 rfl 1 rfl ?_
    obtain ⟨k42, h⟩ := gdS h
    obtain ⟨⟨u42, M42⟩, c42, h⟩ := bdS h
    dsimp only at h
    refine x_callV F (As := [.ref (b + v1)]) (rest := []) (res := none) (ci := 8) (q := (RX8, TX8, 17)) rfl (by decide) k42 (k_X8_readBand l b D cy N v0 v1 M _ _ c42) wl_529 wl_530 wl_531 wl_75 wl_513 hd_X8_readBand ⟨Nat.le_of_ble_eq_true rfl, Nat.le_of_ble_eq_true rfl⟩ ⟨Nat.le_refl _, Nat.le_refl _⟩ (Nat.le_of_ble_eq_true rfl) rfl dX8_readLine_42 ?_
    refine x_goto F (tgt := 85) dX8_readLine_45 (by decide) ?_
    obtain ⟨rfl, rfl⟩ := retS h
    exact x_vret F hr hl dX8_readLine_85
  rw [if_neg c4_0] at h
  by_cases c4_1 : x1 = 1
  · rw [if_pos c4_1] at h
    refine x_tableIn F (off := 44) (tgt := 48) dX8_readLine_4 (by rw [c4_1]; decide) (by rw [c4_1]; decide) (by rw [c4_1]; decide) (by decide) ?_
    refine x_aload_n F dX8_readLine_48 rfl 0 rfl ?_
    refine x_aload_n F dX8_readLine_49 rfl 1 rfl ?_
    obtain ⟨k50, h⟩ := gdS h
    obtain ⟨⟨u50, M50⟩, c50, h⟩ := bdS h
    dsimp only at h
    refine x_callV F (As := [.ref (b + v1)]) (rest := []) (res := none) (ci := 8) (q := (RX8, TX8, 17)) rfl (by decide) k50 (k_X8_readTide l b D cy N v0 v1 M _ _ c50) wl_532 wl_533 wl_534 wl_75 wl_514 hd_X8_readTide ⟨Nat.le_of_ble_eq_true rfl, Nat.le_of_ble_eq_true rfl⟩ ⟨Nat.le_refl _, Nat.le_refl _⟩ (Nat.le_of_ble_eq_true rfl) rfl dX8_readLine_50 ?_
    refine x_goto F (tgt := 85) dX8_readLine_53 (by decide) ?_
    obtain ⟨rfl, rfl⟩ := retS h
    exact x_vret F hr hl dX8_readLine_85
  rw [if_neg c4_1] at h
  by_cases c4_2 : x1 = 2
  · rw [if_pos c4_2] at h
    refine x_tableIn F (off := 52) (tgt := 56) dX8_readLine_4 (by rw [c4_2]; decide) (by rw [c4_2]; decide) (by rw [c4_2]; decide) (by decide) ?_
    refine x_aload_n F dX8_readLine_56 rfl 0 rfl ?_
    refine x_aload_n F dX8_readLine_57 rfl 1 rfl ?_
    obtain ⟨k58, h⟩ := gdS h
    obtain ⟨⟨u58, M58⟩, c58, h⟩ := bdS h
    dsimp only at h
    refine x_callV F (As := [.ref (b + v1)]) (rest := []) (res := none) (ci := 8) (q := (RX8, TX8, 17)) rfl (by decide) k58 (k_X8_readWriter l b D cy N v0 v1 M _ _ c58) wl_535 wl_536 wl_537 wl_75 wl_515 hd_X8_readWriter ⟨Nat.le_of_ble_eq_true rfl, Nat.le_of_ble_eq_true rfl⟩ ⟨Nat.le_refl _, Nat.le_refl _⟩ (Nat.le_of_ble_eq_true rfl) rfl dX8_readLine_58 ?_
    refine x_goto F (tgt := 85) dX8_readLine_61 (by decide) ?_
    obtain ⟨rfl, rfl⟩ := retS h
    exact x_vret F hr hl dX8_readLine_85
  rw [if_neg c4_2] at h
  by_cases c4_3 : x1 = 3
  · rw [if_pos c4_3] at h
    refine x_tableIn F (off := 60) (tgt := 64) dX8_readLine_4 (by rw [c4_3]; decide) (by rw [c4_3]; decide) (by rw [c4_3]; decide) (by decide) ?_
    refine x_aload_n F dX8_readLine_64 rfl 0 rfl ?_
    refine x_aload_n F dX8_readLine_65 rfl 1 rfl ?_
    obtain ⟨k66, h⟩ := gdS h
    obtain ⟨⟨u66, M66⟩, c66, h⟩ := bdS h
    dsimp only at h
    refine x_callV F (As := [.ref (b + v1)]) (rest := []) (res := none) (ci := 8) (q := (RX8, TX8, 17)) rfl (by decide) k66 (k_X8_readLaw l b D cy N v0 v1 M _ _ c66) wl_538 wl_539 wl_540 wl_75 wl_526 hd_X8_readLaw ⟨Nat.le_of_ble_eq_true rfl, Nat.le_of_ble_eq_true rfl⟩ ⟨Nat.le_refl _, Nat.le_refl _⟩ (Nat.le_of_ble_eq_true rfl) rfl dX8_readLine_66 ?_
    refine x_goto F (tgt := 85) dX8_readLine_69 (by decide) ?_
    obtain ⟨rfl, rfl⟩ := retS h
    exact x_vret F hr hl dX8_readLine_85
  rw [if_neg c4_3] at h
  by_cases c4_4 : x1 = 4
  · rw [if_pos c4_4] at h
    refine x_tableIn F (off := 68) (tgt := 72) dX8_readLine_4 (by rw [c4_4]; decide) (by rw [c4_4]; decide) (by rw [c4_4]; decide) (by decide) ?_
    refine x_aload_n F dX8_readLine_72 rfl 0 rfl ?_
    refine x_aload_n F dX8_readLine_73 rfl 1 rfl ?_
    obtain ⟨k74, h⟩ := gdS h
    obtain ⟨⟨u74, M74⟩, c74, h⟩ := bdS h
    dsimp only at h
    refine x_callV F (As := [.ref (b + v1)]) (rest := []) (res := none) (ci := 8) (q := (RX8, TX8, 17)) rfl (by decide) k74 (k_X8_readLapse l b D cy N v0 v1 M _ _ c74) wl_541 wl_542 wl_543 wl_75 wl_527 hd_X8_readLapse ⟨Nat.le_of_ble_eq_true rfl, Nat.le_of_ble_eq_true rfl⟩ ⟨Nat.le_refl _, Nat.le_refl _⟩ (Nat.le_of_ble_eq_true rfl) rfl dX8_readLine_74 ?_
    refine x_goto F (tgt := 85) dX8_readLine_77 (by decide) ?_
    obtain ⟨rfl, rfl⟩ := retS h
    exact x_vret F hr hl dX8_readLine_85
  rw [if_neg c4_4] at h
  refine x_tableOut F (tgt := 80) dX8_readLine_4 (by have q0 := sw_ne (t := 0) c4_0 (by decide); have q1 := sw_ne (t := 1) c4_1 (by decide); have q2 := sw_ne (t := 2) c4_2 (by decide); have q3 := sw_ne (t := 3) c4_3 (by decide); have q4 := sw_ne (t := 4) c4_4 (by decide); omega) (by decide) ?_
  refine x_aload_n F dX8_readLine_80 rfl 1 rfl ?_
  refine x_iconst F (v := 1) dX8_readLine_81 (by decide) ?_
  obtain ⟨k82, h⟩ := gdS h
  obtain ⟨⟨u82, M82⟩, c82, h⟩ := bdS h
  dsimp only at h
  refine x_callV F (As := [.int 1]) (rest := []) (res := none) (ci := 9) (q := (RX9, TX9, 12)) rfl (by decide) k82 (k_X9_fail l b D cy N v1 1 M _ _ c82) wl_502 wl_185 wl_186 wl_164 wl_182 hd_X9_fail ⟨Nat.le_of_ble_eq_true rfl, Nat.le_of_ble_eq_true rfl⟩ ⟨Nat.le_refl _, Nat.le_refl _⟩ (Nat.le_of_ble_eq_true rfl) rfl dX8_readLine_82 ?_
  obtain ⟨rfl, rfl⟩ := retS h
  exact x_vret F hr hl dX8_readLine_85
theorem hd_X8_readLine : (yX8_readLine).cls = RX8 ∧ (yX8_readLine).cls ≠ "java/lang/invoke/MethodHandle" ∧ (yX8_readLine).cls ≠ "java/lang/invoke/VarHandle" ∧ (parseMethodDescriptor (yX8_readLine).desc).map (fun d => d.parameters.length) = some 1 := by decide +kernel
theorem dX8_readFrom_0 : decode cX8_readFrom 0 = .ok (.aload_n 0, 1) := by decide +kernel
theorem dX8_readFrom_1 : decode cX8_readFrom 1 = .ok (.iconst 0, 1) := by decide +kernel
theorem dX8_readFrom_2 : decode cX8_readFrom 2 = .ok (.putfield 9, 3) := by decide +kernel
theorem dX8_readFrom_5 : decode cX8_readFrom 5 = .ok (.aload_n 0, 1) := by decide +kernel
theorem dX8_readFrom_6 : decode cX8_readFrom 6 = .ok (.iconst 0, 1) := by decide +kernel
theorem dX8_readFrom_7 : decode cX8_readFrom 7 = .ok (.putfield 26, 3) := by decide +kernel
theorem dX8_readFrom_10 : decode cX8_readFrom 10 = .ok (.aload_n 0, 1) := by decide +kernel
theorem dX8_readFrom_11 : decode cX8_readFrom 11 = .ok (.iconst 0, 1) := by decide +kernel
theorem dX8_readFrom_12 : decode cX8_readFrom 12 = .ok (.putfield 32, 3) := by decide +kernel
theorem dX8_readFrom_15 : decode cX8_readFrom 15 = .ok (.aload_n 0, 1) := by decide +kernel
theorem dX8_readFrom_16 : decode cX8_readFrom 16 = .ok (.iconst 0, 1) := by decide +kernel
theorem dX8_readFrom_17 : decode cX8_readFrom 17 = .ok (.putfield 41, 3) := by decide +kernel
theorem dX8_readFrom_20 : decode cX8_readFrom 20 = .ok (.aload_n 0, 1) := by decide +kernel
theorem dX8_readFrom_21 : decode cX8_readFrom 21 = .ok (.iconst 3, 1) := by decide +kernel
theorem dX8_readFrom_22 : decode cX8_readFrom 22 = .ok (.putfield 56, 3) := by decide +kernel
theorem dX8_readFrom_25 : decode cX8_readFrom 25 = .ok (.aload_n 0, 1) := by decide +kernel
theorem dX8_readFrom_26 : decode cX8_readFrom 26 = .ok (.iconst 0, 1) := by decide +kernel
theorem dX8_readFrom_27 : decode cX8_readFrom 27 = .ok (.putfield 59, 3) := by decide +kernel
theorem dX8_readFrom_30 : decode cX8_readFrom 30 = .ok (.aload_n 0, 1) := by decide +kernel
theorem dX8_readFrom_31 : decode cX8_readFrom 31 = .ok (.iconst 0, 1) := by decide +kernel
theorem dX8_readFrom_32 : decode cX8_readFrom 32 = .ok (.putfield 63, 3) := by decide +kernel
theorem dX8_readFrom_35 : decode cX8_readFrom 35 = .ok (.aload_n 1, 1) := by decide +kernel
theorem dX8_readFrom_36 : decode cX8_readFrom 36 = .ok (.sipush 900, 3) := by decide +kernel
theorem dX8_readFrom_39 : decode cX8_readFrom 39 = .ok (.invokevirtual 72, 3) := by decide +kernel
theorem dX8_readFrom_42 : decode cX8_readFrom 42 = .ok (.iconst 0, 1) := by decide +kernel
theorem dX8_readFrom_43 : decode cX8_readFrom 43 = .ok (.istore_n 2, 1) := by decide +kernel
theorem dX8_readFrom_44 : decode cX8_readFrom 44 = .ok (.iload_n 2, 1) := by decide +kernel
theorem dX8_readFrom_45 : decode cX8_readFrom 45 = .ok (.bipush 25, 2) := by decide +kernel
theorem dX8_readFrom_47 : decode cX8_readFrom 47 = .ok (.if_icmp .gt 44, 3) := by decide +kernel
theorem dX8_readFrom_50 : decode cX8_readFrom 50 = .ok (.aload_n 1, 1) := by decide +kernel
theorem dX8_readFrom_51 : decode cX8_readFrom 51 = .ok (.getfield 78, 3) := by decide +kernel
theorem dX8_readFrom_54 : decode cX8_readFrom 54 = .ok (.ifCond .ne 37, 3) := by decide +kernel
theorem dX8_readFrom_57 : decode cX8_readFrom 57 = .ok (.aload_n 1, 1) := by decide +kernel
theorem dX8_readFrom_58 : decode cX8_readFrom 58 = .ok (.getfield 81, 3) := by decide +kernel
theorem dX8_readFrom_61 : decode cX8_readFrom 61 = .ok (.ifCond .eq 30, 3) := by decide +kernel
theorem dX8_readFrom_64 : decode cX8_readFrom 64 = .ok (.aload_n 0, 1) := by decide +kernel
theorem dX8_readFrom_65 : decode cX8_readFrom 65 = .ok (.aload_n 1, 1) := by decide +kernel
theorem dX8_readFrom_66 : decode cX8_readFrom 66 = .ok (.invokevirtual 84, 3) := by decide +kernel
theorem dX8_readFrom_69 : decode cX8_readFrom 69 = .ok (.aload_n 1, 1) := by decide +kernel
theorem dX8_readFrom_70 : decode cX8_readFrom 70 = .ok (.bipush 59, 2) := by decide +kernel
theorem dX8_readFrom_72 : decode cX8_readFrom 72 = .ok (.invokevirtual 88, 3) := by decide +kernel
theorem dX8_readFrom_75 : decode cX8_readFrom 75 = .ok (.aload_n 0, 1) := by decide +kernel
theorem dX8_readFrom_76 : decode cX8_readFrom 76 = .ok (.dup, 1) := by decide +kernel
theorem dX8_readFrom_77 : decode cX8_readFrom 77 = .ok (.getfield 63, 3) := by decide +kernel
theorem dX8_readFrom_80 : decode cX8_readFrom 80 = .ok (.iconst 1, 1) := by decide +kernel
theorem dX8_readFrom_81 : decode cX8_readFrom 81 = .ok (.iadd, 1) := by decide +kernel
theorem dX8_readFrom_82 : decode cX8_readFrom 82 = .ok (.putfield 63, 3) := by decide +kernel
theorem dX8_readFrom_85 : decode cX8_readFrom 85 = .ok (.iinc 2 1, 3) := by decide +kernel
theorem dX8_readFrom_88 : decode cX8_readFrom 88 = .ok (.goto (-44), 3) := by decide +kernel
theorem dX8_readFrom_91 : decode cX8_readFrom 91 = .ok (.return_, 1) := by decide +kernel
def fX8_readFrom_L44 (N : Nat) (v0 : Nat) (v1 : Nat) : Nat → Int32 → Mem → Option (Mem)
  | 0, _, _ => none
  | n + 1, v2, M => (if 25 < v2 then some M else ((fI M 9 v1 10).bind fun x51 => (if x51 = 0 then ((fI M 9 v1 5).bind fun x58 => (if x58 = 0 then some M else (if mK M v0 = 9 then ((fX8_readLine N v0 v1 M).bind fun (u66, M66) => (if mK M66 v1 = 10 then ((fX9_takeMark N v1 59 M66).bind fun (u72, M72) => ((fI M72 8 v0 16).bind fun x77 => ((pI M72 8 v0 16 (x77 + 1)).bind fun M82 => fX8_readFrom_L44 N v0 v1 n (v2 + 1) M82))) else none)) else none))) else some M)))
def fX8_readFrom (N : Nat) (v0 : Nat) (v1 : Nat) (M : Mem) : Option (Unit × Mem) := ((pI M 8 v0 0 0).bind fun M2 => ((pI M2 8 v0 4 0).bind fun M7 => ((pI M7 8 v0 6 0).bind fun M12 => ((pI M12 8 v0 9 0).bind fun M17 => ((pI M17 8 v0 14 3).bind fun M22 => ((pZ M22 8 v0 15 0).bind fun M27 => ((pI M27 8 v0 16 0).bind fun M32 => (if mK M32 v1 = 10 then ((fX9_startReading N v1 900 M32).bind fun (u39, M39) => ((fX8_readFrom_L44 N v0 v1 N 0 M39).bind fun o44 => some ((), o44))) else none))))))))
set_option maxHeartbeats 4000000 in
set_option maxRecDepth 100000 in
theorem k_X8_readFrom (l : Launch) (b : Nat) (D : va_G) (cy : Nat → ClassId) (N : Nat) (v0 : Nat) (v1 : Nat) (M : Mem) (r : Unit) (Mf : Mem) (h : fX8_readFrom N v0 v1 M = some (r, Mf)) : Ct l yX8_readFrom cX8_readFrom 3 none 6 0 0 b D cy [.ref (b + v0), .ref (b + v1)] M none Mf := by
  refine Ct_of (own := RX8) (by decide) rfl (Nat.le_of_ble_eq_true rfl) ?_
  intro p e s m args below meth c F hr hl hmn
  unfold fX8_readFrom at h
  show X p l e ({ frames := 6, cells := 0, slots := 0, locals := 100 * 6 }) s m args below meth c (MQ below (Qm b D cy none Mf) args s 0 0 (fun q => b ≤ q)) 3 b D cy 0 0 M 0 [(0, .ref (b + v0)), (1, .ref (b + v1))] []
  refine x_aload_n F dX8_readFrom_0 rfl 0 rfl ?_
  refine x_iconst F (v := 0) dX8_readFrom_1 (by decide) ?_
  obtain ⟨M2, c2, h⟩ := bdS h
  refine x_putI F (ci := 8) (C := RX8) (T := TX8) (N := 17) rfl ⟨by decide, rfl⟩ inU8 tyX8_ok nmX8 0 (by decide) rfl rfl wl_238 c2 dX8_readFrom_2 ?_
  refine x_aload_n F dX8_readFrom_5 rfl 0 rfl ?_
  refine x_iconst F (v := 0) dX8_readFrom_6 (by decide) ?_
  obtain ⟨M7, c7, h⟩ := bdS h
  refine x_putI F (ci := 8) (C := RX8) (T := TX8) (N := 17) rfl ⟨by decide, rfl⟩ inU8 tyX8_ok nmX8 4 (by decide) rfl rfl wl_37 c7 dX8_readFrom_7 ?_
  refine x_aload_n F dX8_readFrom_10 rfl 0 rfl ?_
  refine x_iconst F (v := 0) dX8_readFrom_11 (by decide) ?_
  obtain ⟨M12, c12, h⟩ := bdS h
  refine x_putI F (ci := 8) (C := RX8) (T := TX8) (N := 17) rfl ⟨by decide, rfl⟩ inU8 tyX8_ok nmX8 6 (by decide) rfl rfl wl_488 c12 dX8_readFrom_12 ?_
  refine x_aload_n F dX8_readFrom_15 rfl 0 rfl ?_
  refine x_iconst F (v := 0) dX8_readFrom_16 (by decide) ?_
  obtain ⟨M17, c17, h⟩ := bdS h
  refine x_putI F (ci := 8) (C := RX8) (T := TX8) (N := 17) rfl ⟨by decide, rfl⟩ inU8 tyX8_ok nmX8 9 (by decide) rfl rfl wl_110 c17 dX8_readFrom_17 ?_
  refine x_aload_n F dX8_readFrom_20 rfl 0 rfl ?_
  refine x_iconst F (v := 3) dX8_readFrom_21 (by decide) ?_
  obtain ⟨M22, c22, h⟩ := bdS h
  refine x_putI F (ci := 8) (C := RX8) (T := TX8) (N := 17) rfl ⟨by decide, rfl⟩ inU8 tyX8_ok nmX8 14 (by decide) rfl rfl wl_493 c22 dX8_readFrom_22 ?_
  refine x_aload_n F dX8_readFrom_25 rfl 0 rfl ?_
  refine x_iconst F (v := 0) dX8_readFrom_26 (by decide) ?_
  obtain ⟨M27, c27, h⟩ := bdS h
  refine x_putZ F (ci := 8) (C := RX8) (T := TX8) (N := 17) rfl ⟨by decide, rfl⟩ inU8 tyX8_ok nmX8 15 (by decide) rfl rfl wl_494 c27 dX8_readFrom_27 ?_
  refine x_aload_n F dX8_readFrom_30 rfl 0 rfl ?_
  refine x_iconst F (v := 0) dX8_readFrom_31 (by decide) ?_
  obtain ⟨M32, c32, h⟩ := bdS h
  refine x_putI F (ci := 8) (C := RX8) (T := TX8) (N := 17) rfl ⟨by decide, rfl⟩ inU8 tyX8_ok nmX8 16 (by decide) rfl rfl wl_495 c32 dX8_readFrom_32 ?_
  refine x_aload_n F dX8_readFrom_35 rfl 1 rfl ?_
  refine x_sipush F (v := 900) dX8_readFrom_36 (by decide) ?_
  obtain ⟨k39, h⟩ := gdS h
  obtain ⟨⟨u39, M39⟩, c39, h⟩ := bdS h
  dsimp only at h
  refine x_callV F (As := [.int 900]) (rest := []) (res := none) (ci := 9) (q := (RX9, TX9, 12)) rfl (by decide) k39 (k_X9_startReading l b D cy N v1 900 M32 _ _ c39) wl_545 wl_228 wl_229 wl_164 wl_180 hd_X9_startReading ⟨Nat.le_of_ble_eq_true rfl, Nat.le_of_ble_eq_true rfl⟩ ⟨Nat.le_refl _, Nat.le_refl _⟩ (Nat.le_of_ble_eq_true rfl) rfl dX8_readFrom_39 ?_
  refine x_iconst F (v := 0) dX8_readFrom_42 (by decide) ?_
  refine x_istore_n F (lv' := [(2, .int 0), (0, .ref (b + v0)), (1, .ref (b + v1))]) dX8_readFrom_43 rfl (by decide) rfl ?_
  have L44 : ∀ (v0 : Nat) (v1 : Nat) (n : Nat) (v2 : Int32) (M : Mem) (o : Mem), fX8_readFrom_L44 N v0 v1 n v2 M = some o → X p l e ({ frames := 6, cells := 0, slots := 0, locals := 100 * 6 }) s m args below meth c (MQ below (Qm b D cy none Mf) args s 0 0 (fun q => b ≤ q)) 3 b D cy 0 0 o 91 [] [] → X p l e ({ frames := 6, cells := 0, slots := 0, locals := 100 * 6 }) s m args below meth c (MQ below (Qm b D cy none Mf) args s 0 0 (fun q => b ≤ q)) 3 b D cy 0 0 M 44 [(0, .ref (b + v0)), (1, .ref (b + v1)), (2, .int v2)] [] := by
    intro v0 v1 n
    induction n with
    | zero => intro v2 M o h; exact absurd h (by rw [fX8_readFrom_L44]; exact fun z => by cases z)
    | succ n ih =>
      intro v2 M o h hE
      rw [fX8_readFrom_L44] at h
      refine x_iload_n F dX8_readFrom_44 rfl 2 rfl ?_
      refine x_bipush F (v := 25) dX8_readFrom_45 (by decide) ?_
      refine x_icmp_gt F (tgt := 91) dX8_readFrom_47 (by decide) (fun c47 => ?_) (fun c47 => ?_)
      · rw [if_pos c47] at h
        obtain rfl := Option.some.inj h
        refine x_sub [] rfl ?_
        exact hE
      · rw [if_neg c47] at h
        refine x_aload_n F dX8_readFrom_50 rfl 1 rfl ?_
        obtain ⟨x51, c51, h⟩ := bdS h
        refine x_getI F (ci := 9) (C := RX9) (T := TX9) (N := 12) rfl ⟨by decide, rfl⟩ inU9 10 (by decide) (fun _ _ _ => rfl) wl_508 c51 dX8_readFrom_51 ?_
        refine x_if_ne F (tgt := 91) dX8_readFrom_54 (by decide) (fun c54 => ?_) (fun c54 => ?_)
        · rw [if_neg c54] at h
          obtain rfl := Option.some.inj h
          refine x_sub [] rfl ?_
          exact hE
        · rw [if_pos c54] at h
          refine x_aload_n F dX8_readFrom_57 rfl 1 rfl ?_
          obtain ⟨x58, c58, h⟩ := bdS h
          refine x_getI F (ci := 9) (C := RX9) (T := TX9) (N := 12) rfl ⟨by decide, rfl⟩ inU9 5 (by decide) (fun _ _ _ => rfl) wl_518 c58 dX8_readFrom_58 ?_
          refine x_if_eq F (tgt := 91) dX8_readFrom_61 (by decide) (fun c61 => ?_) (fun c61 => ?_)
          · rw [if_pos c61] at h
            obtain rfl := Option.some.inj h
            refine x_sub [] rfl ?_
            exact hE
          · rw [if_neg c61] at h
            refine x_aload_n F dX8_readFrom_64 rfl 0 rfl ?_
            refine x_aload_n F dX8_readFrom_65 rfl 1 rfl ?_
            obtain ⟨k66, h⟩ := gdS h
            obtain ⟨⟨u66, M66⟩, c66, h⟩ := bdS h
            dsimp only at h
            refine x_callV F (As := [.ref (b + v1)]) (rest := []) (res := none) (ci := 8) (q := (RX8, TX8, 17)) rfl (by decide) k66 (k_X8_readLine l b D cy N v0 v1 M _ _ c66) wl_546 wl_547 wl_548 wl_75 wl_544 hd_X8_readLine ⟨Nat.le_of_ble_eq_true rfl, Nat.le_of_ble_eq_true rfl⟩ ⟨Nat.le_refl _, Nat.le_refl _⟩ (Nat.le_of_ble_eq_true rfl) rfl dX8_readFrom_66 ?_
            refine x_aload_n F dX8_readFrom_69 rfl 1 rfl ?_
            refine x_bipush F (v := 59) dX8_readFrom_70 (by decide) ?_
            obtain ⟨k72, h⟩ := gdS h
            obtain ⟨⟨u72, M72⟩, c72, h⟩ := bdS h
            dsimp only at h
            refine x_callV F (As := [.int 59]) (rest := []) (res := none) (ci := 9) (q := (RX9, TX9, 12)) rfl (by decide) k72 (k_X9_takeMark l b D cy N v1 59 M66 _ _ c72) wl_549 wl_234 wl_235 wl_164 wl_225 hd_X9_takeMark ⟨Nat.le_of_ble_eq_true rfl, Nat.le_of_ble_eq_true rfl⟩ ⟨Nat.le_refl _, Nat.le_refl _⟩ (Nat.le_of_ble_eq_true rfl) rfl dX8_readFrom_72 ?_
            refine x_aload_n F dX8_readFrom_75 rfl 0 rfl ?_
            refine x_dup F dX8_readFrom_76 rfl ?_
            obtain ⟨x77, c77, h⟩ := bdS h
            refine x_getI F (ci := 8) (C := RX8) (T := TX8) (N := 17) rfl ⟨by decide, rfl⟩ inU8 16 (by decide) (fun _ _ _ => rfl) wl_495 c77 dX8_readFrom_77 ?_
            refine x_iconst F (v := 1) dX8_readFrom_80 (by decide) ?_
            refine x_iadd F dX8_readFrom_81 ?_
            obtain ⟨M82, c82, h⟩ := bdS h
            refine x_putI F (ci := 8) (C := RX8) (T := TX8) (N := 17) rfl ⟨by decide, rfl⟩ inU8 tyX8_ok nmX8 16 (by decide) rfl rfl wl_495 c82 dX8_readFrom_82 ?_
            refine x_iinc F (v := v2 + 1) (lv' := [(2, .int (v2 + 1)), (0, .ref (b + v0)), (1, .ref (b + v1))]) dX8_readFrom_85 2 rfl rfl (by decide) rfl ?_
            refine x_goto F (tgt := 44) dX8_readFrom_88 (by decide) ?_
            refine x_sub [1, 2, 0] rfl ?_
            exact ih (v2 + 1) M82 o h hE
  obtain ⟨o44, h44, h⟩ := bdS h
  refine x_sub [1, 2, 0] rfl ?_
  refine L44 v0 v1 N 0 M39 o44 h44 ?_
  obtain ⟨rfl, rfl⟩ := retS h
  exact x_vret F hr hl dX8_readFrom_91
theorem dX8_putName_0 : decode cX8_putName 0 = .ok (.iconst 0, 1) := by decide +kernel
theorem dX8_putName_1 : decode cX8_putName 1 = .ok (.istore 4, 2) := by decide +kernel
theorem dX8_putName_3 : decode cX8_putName 3 = .ok (.bipush 30, 2) := by decide +kernel
theorem dX8_putName_5 : decode cX8_putName 5 = .ok (.istore 5, 2) := by decide +kernel
theorem dX8_putName_7 : decode cX8_putName 7 = .ok (.iload 5, 2) := by decide +kernel
theorem dX8_putName_9 : decode cX8_putName 9 = .ok (.ifCond .lt 46, 3) := by decide +kernel
theorem dX8_putName_12 : decode cX8_putName 12 = .ok (.lload_n 1, 1) := by decide +kernel
theorem dX8_putName_13 : decode cX8_putName 13 = .ok (.iload 5, 2) := by decide +kernel
theorem dX8_putName_15 : decode cX8_putName 15 = .ok (.lushr, 1) := by decide +kernel
theorem dX8_putName_16 : decode cX8_putName 16 = .ok (.ldc2_w 150, 3) := by decide +kernel
theorem dX8_putName_19 : decode cX8_putName 19 = .ok (.land, 1) := by decide +kernel
theorem dX8_putName_20 : decode cX8_putName 20 = .ok (.l2i, 1) := by decide +kernel
theorem dX8_putName_21 : decode cX8_putName 21 = .ok (.istore 6, 2) := by decide +kernel
theorem dX8_putName_23 : decode cX8_putName 23 = .ok (.iload 6, 2) := by decide +kernel
theorem dX8_putName_25 : decode cX8_putName 25 = .ok (.ifCond .eq 24, 3) := by decide +kernel
theorem dX8_putName_28 : decode cX8_putName 28 = .ok (.iload 4, 2) := by decide +kernel
theorem dX8_putName_30 : decode cX8_putName 30 = .ok (.aload_n 3, 1) := by decide +kernel
theorem dX8_putName_31 : decode cX8_putName 31 = .ok (.arraylength, 1) := by decide +kernel
theorem dX8_putName_32 : decode cX8_putName 32 = .ok (.if_icmp .ge 17, 3) := by decide +kernel
theorem dX8_putName_35 : decode cX8_putName 35 = .ok (.aload_n 3, 1) := by decide +kernel
theorem dX8_putName_36 : decode cX8_putName 36 = .ok (.iload 4, 2) := by decide +kernel
theorem dX8_putName_38 : decode cX8_putName 38 = .ok (.bipush 97, 2) := by decide +kernel
theorem dX8_putName_40 : decode cX8_putName 40 = .ok (.iload 6, 2) := by decide +kernel
theorem dX8_putName_42 : decode cX8_putName 42 = .ok (.iadd, 1) := by decide +kernel
theorem dX8_putName_43 : decode cX8_putName 43 = .ok (.iconst 1, 1) := by decide +kernel
theorem dX8_putName_44 : decode cX8_putName 44 = .ok (.isub, 1) := by decide +kernel
theorem dX8_putName_45 : decode cX8_putName 45 = .ok (.iastore, 1) := by decide +kernel
theorem dX8_putName_46 : decode cX8_putName 46 = .ok (.iinc 4 1, 3) := by decide +kernel
theorem dX8_putName_49 : decode cX8_putName 49 = .ok (.iinc 5 (-5), 3) := by decide +kernel
theorem dX8_putName_52 : decode cX8_putName 52 = .ok (.goto (-45), 3) := by decide +kernel
theorem dX8_putName_55 : decode cX8_putName 55 = .ok (.iload 4, 2) := by decide +kernel
theorem dX8_putName_57 : decode cX8_putName 57 = .ok (.ireturn, 1) := by decide +kernel
def fX8_putName_L7 (N : Nat) (v1 : Int64) (v3 : Nat) : Nat → Int32 → Int32 → Mem → Option (Int32 × Mem)
  | 0, _, _, _ => none
  | n + 1, v4, v5, M => (if v5 < 0 then some (v4, M) else (if (Int64.toInt32 ((UInt64.toInt64 (Int64.toUInt64 v1 >>> (Int64.toUInt64 (Int32.toInt64 v5) &&& Int64.toUInt64 63))) &&& ((31)))) = 0 then fX8_putName_L7 N v1 v3 n v4 (v5 + (-5)) M else ((nA M v3).bind fun x31 => (if x31 ≤ v4 then fX8_putName_L7 N v1 v3 n v4 (v5 + (-5)) M else ((tI M v3 v4 ((97 + (Int64.toInt32 ((UInt64.toInt64 (Int64.toUInt64 v1 >>> (Int64.toUInt64 (Int32.toInt64 v5) &&& Int64.toUInt64 63))) &&& ((31))))) - 1)).bind fun M45 => fX8_putName_L7 N v1 v3 n (v4 + 1) (v5 + (-5)) M45)))))
def fX8_putName (N : Nat) (v0 : Nat) (v1 : Int64) (v3 : Nat) (M : Mem) : Option (Int32 × Mem) := ((fX8_putName_L7 N v1 v3 N 0 30 M).bind fun o7 => some o7)
set_option maxHeartbeats 4000000 in
set_option maxRecDepth 100000 in
theorem k_X8_putName (l : Launch) (b : Nat) (D : va_G) (cy : Nat → ClassId) (N : Nat) (v0 : Nat) (v1 : Int64) (v3 : Nat) (M : Mem) (r : Int32) (Mf : Mem) (h : fX8_putName N v0 v1 v3 M = some (r, Mf)) : Ct l yX8_putName cX8_putName 7 (some .int) 1 0 0 b D cy [.ref (b + v0), .long v1, .ref (b + v3)] M (some (.int r)) Mf := by
  refine Ct_of (own := RX8) (by decide) rfl (Nat.le_of_ble_eq_true rfl) ?_
  intro p e s m args below meth c F hr hl hmn
  unfold fX8_putName at h
  show X p l e ({ frames := 1, cells := 0, slots := 0, locals := 100 * 1 }) s m args below meth c (MQ below (Qm b D cy (some (.int r)) Mf) args s 0 0 (fun q => b ≤ q)) 7 b D cy 0 0 M 0 [(0, .ref (b + v0)), (1, .long v1), (3, .ref (b + v3))] []
  refine x_iconst F (v := 0) dX8_putName_0 (by decide) ?_
  refine x_istore F (lv' := [(4, .int 0), (0, .ref (b + v0)), (1, .long v1), (3, .ref (b + v3))]) dX8_putName_1 (by decide) rfl ?_
  refine x_bipush F (v := 30) dX8_putName_3 (by decide) ?_
  refine x_istore F (lv' := [(5, .int 30), (4, .int 0), (0, .ref (b + v0)), (1, .long v1), (3, .ref (b + v3))]) dX8_putName_5 (by decide) rfl ?_
  have L7 : ∀ (v1 : Int64) (v3 : Nat) (n : Nat) (v4 : Int32) (v5 : Int32) (M : Mem) (o : Int32 × Mem), fX8_putName_L7 N v1 v3 n v4 v5 M = some o → (∀ (r' : Int32) (M' : Mem), o = (r', M') → r' = r ∧ M' = Mf) → X p l e ({ frames := 1, cells := 0, slots := 0, locals := 100 * 1 }) s m args below meth c (MQ below (Qm b D cy (some (.int r)) Mf) args s 0 0 (fun q => b ≤ q)) 7 b D cy 0 0 M 7 [(1, .long v1), (3, .ref (b + v3)), (4, .int v4), (5, .int v5)] [] := by
    intro v1 v3 n
    induction n with
    | zero => intro v4 v5 M o h; exact absurd h (by rw [fX8_putName_L7]; exact fun z => by cases z)
    | succ n ih =>
      intro v4 v5 M o h hR
      rw [fX8_putName_L7] at h
      refine x_iload F dX8_putName_7 3 rfl ?_
      refine x_if_lt F (tgt := 55) dX8_putName_9 (by decide) (fun c9 => ?_) (fun c9 => ?_)
      · rw [if_pos c9] at h
        refine x_iload F dX8_putName_55 2 rfl ?_
        obtain rfl := Option.some.inj h
        obtain ⟨rfl, rfl⟩ := hR _ _ rfl
        exact x_iret F hr hl dX8_putName_57
      · rw [if_neg c9] at h
        refine x_lload_n F dX8_putName_12 rfl 0 rfl ?_
        refine x_iload F dX8_putName_13 3 rfl ?_
        refine x_lushr F dX8_putName_15 ?_
        refine x_ldc2 F (v := (31)) dX8_putName_16 wl_552 ?_
        refine x_land F dX8_putName_19 ?_
        refine x_l2i F dX8_putName_20 ?_
        refine x_istore F (lv' := [(6, .int (Int64.toInt32 ((UInt64.toInt64 (Int64.toUInt64 v1 >>> (Int64.toUInt64 (Int32.toInt64 v5) &&& Int64.toUInt64 63))) &&& ((31))))), (1, .long v1), (3, .ref (b + v3)), (4, .int v4), (5, .int v5)]) dX8_putName_21 (by decide) rfl ?_
        refine x_iload F dX8_putName_23 0 rfl ?_
        refine x_if_eq F (tgt := 49) dX8_putName_25 (by decide) (fun c25 => ?_) (fun c25 => ?_)
        · rw [if_pos c25] at h
          refine x_iinc F (v := v5 + (-5)) (lv' := [(5, .int (v5 + (-5))), (6, .int (Int64.toInt32 ((UInt64.toInt64 (Int64.toUInt64 v1 >>> (Int64.toUInt64 (Int32.toInt64 v5) &&& Int64.toUInt64 63))) &&& ((31))))), (1, .long v1), (3, .ref (b + v3)), (4, .int v4)]) dX8_putName_49 4 rfl rfl (by decide) rfl ?_
          refine x_goto F (tgt := 7) dX8_putName_52 (by decide) ?_
          refine x_sub [2, 3, 4, 0] rfl ?_
          exact ih v4 (v5 + (-5)) M o h hR
        · rw [if_neg c25] at h
          refine x_iload F dX8_putName_28 3 rfl ?_
          refine x_aload_n F dX8_putName_30 rfl 2 rfl ?_
          obtain ⟨x31, c31, h⟩ := bdS h
          refine x_nA F c31 dX8_putName_31 ?_
          refine x_icmp_ge F (tgt := 49) dX8_putName_32 (by decide) (fun c32 => ?_) (fun c32 => ?_)
          · rw [if_pos c32] at h
            refine x_iinc F (v := v5 + (-5)) (lv' := [(5, .int (v5 + (-5))), (6, .int (Int64.toInt32 ((UInt64.toInt64 (Int64.toUInt64 v1 >>> (Int64.toUInt64 (Int32.toInt64 v5) &&& Int64.toUInt64 63))) &&& ((31))))), (1, .long v1), (3, .ref (b + v3)), (4, .int v4)]) dX8_putName_49 4 rfl rfl (by decide) rfl ?_
            refine x_goto F (tgt := 7) dX8_putName_52 (by decide) ?_
            refine x_sub [2, 3, 4, 0] rfl ?_
            exact ih v4 (v5 + (-5)) M o h hR
          · rw [if_neg c32] at h
            refine x_aload_n F dX8_putName_35 rfl 2 rfl ?_
            refine x_iload F dX8_putName_36 3 rfl ?_
            refine x_bipush F (v := 97) dX8_putName_38 (by decide) ?_
            refine x_iload F dX8_putName_40 0 rfl ?_
            refine x_iadd F dX8_putName_42 ?_
            refine x_iconst F (v := 1) dX8_putName_43 (by decide) ?_
            refine x_isub F dX8_putName_44 ?_
            obtain ⟨M45, c45, h⟩ := bdS h
            refine x_tI F c45 dX8_putName_45 ?_
            refine x_iinc F (v := v4 + 1) (lv' := [(4, .int (v4 + 1)), (6, .int (Int64.toInt32 ((UInt64.toInt64 (Int64.toUInt64 v1 >>> (Int64.toUInt64 (Int32.toInt64 v5) &&& Int64.toUInt64 63))) &&& ((31))))), (1, .long v1), (3, .ref (b + v3)), (5, .int v5)]) dX8_putName_46 3 rfl rfl (by decide) rfl ?_
            refine x_iinc F (v := v5 + (-5)) (lv' := [(5, .int (v5 + (-5))), (4, .int (v4 + 1)), (6, .int (Int64.toInt32 ((UInt64.toInt64 (Int64.toUInt64 v1 >>> (Int64.toUInt64 (Int32.toInt64 v5) &&& Int64.toUInt64 63))) &&& ((31))))), (1, .long v1), (3, .ref (b + v3))]) dX8_putName_49 4 rfl rfl (by decide) rfl ?_
            refine x_goto F (tgt := 7) dX8_putName_52 (by decide) ?_
            refine x_sub [3, 4, 1, 0] rfl ?_
            exact ih (v4 + 1) (v5 + (-5)) M45 o h hR
  obtain ⟨o7, h7, h⟩ := bdS h
  refine x_sub [3, 4, 1, 0] rfl ?_
  refine L7 v1 v3 N 0 30 M o7 h7 (fun r' M' e => ?_)
  · subst e
    try dsimp only at h
    obtain ⟨rfl, rfl⟩ := retS h; exact ⟨rfl, rfl⟩
theorem dX8_hasWriter_0 : decode cX8_hasWriter 0 = .ok (.iload_n 1, 1) := by decide +kernel
theorem dX8_hasWriter_1 : decode cX8_hasWriter 1 = .ok (.ifCond .lt 15, 3) := by decide +kernel
theorem dX8_hasWriter_4 : decode cX8_hasWriter 4 = .ok (.iload_n 1, 1) := by decide +kernel
theorem dX8_hasWriter_5 : decode cX8_hasWriter 5 = .ok (.aload_n 0, 1) := by decide +kernel
theorem dX8_hasWriter_6 : decode cX8_hasWriter 6 = .ok (.getfield 32, 3) := by decide +kernel
theorem dX8_hasWriter_9 : decode cX8_hasWriter 9 = .ok (.if_icmp .ge 7, 3) := by decide +kernel
theorem dX8_hasWriter_12 : decode cX8_hasWriter 12 = .ok (.iconst 1, 1) := by decide +kernel
theorem dX8_hasWriter_13 : decode cX8_hasWriter 13 = .ok (.goto 4, 3) := by decide +kernel
theorem dX8_hasWriter_16 : decode cX8_hasWriter 16 = .ok (.iconst 0, 1) := by decide +kernel
theorem dX8_hasWriter_17 : decode cX8_hasWriter 17 = .ok (.ireturn, 1) := by decide +kernel
def fX8_hasWriter (N : Nat) (v0 : Nat) (v1 : Int32) (M : Mem) : Option (Int32 × Mem) := (if v1 < 0 then some (0, M) else ((fI M 8 v0 6).bind fun x6 => (if x6 ≤ v1 then some (0, M) else some (1, M))))
set_option maxHeartbeats 4000000 in
set_option maxRecDepth 100000 in
theorem k_X8_hasWriter (l : Launch) (b : Nat) (D : va_G) (cy : Nat → ClassId) (N : Nat) (v0 : Nat) (v1 : Int32) (M : Mem) (r : Int32) (Mf : Mem) (h : fX8_hasWriter N v0 v1 M = some (r, Mf)) : Ct l yX8_hasWriter cX8_hasWriter 2 (some .boolean) 1 0 0 b D cy [.ref (b + v0), .int v1] M (some (.int r)) Mf := by
  refine Ct_of (own := RX8) (by decide) rfl (Nat.le_of_ble_eq_true rfl) ?_
  intro p e s m args below meth c F hr hl hmn
  unfold fX8_hasWriter at h
  show X p l e ({ frames := 1, cells := 0, slots := 0, locals := 100 * 1 }) s m args below meth c (MQ below (Qm b D cy (some (.int r)) Mf) args s 0 0 (fun q => b ≤ q)) 2 b D cy 0 0 M 0 [(0, .ref (b + v0)), (1, .int v1)] []
  refine x_iload_n F dX8_hasWriter_0 rfl 1 rfl ?_
  refine x_if_lt F (tgt := 16) dX8_hasWriter_1 (by decide) (fun c1 => ?_) (fun c1 => ?_)
  · rw [if_pos c1] at h
    refine x_iconst F (v := 0) dX8_hasWriter_16 (by decide) ?_
    obtain ⟨rfl, rfl⟩ := retS h
    exact x_zret F hr hl (by decide) dX8_hasWriter_17
  · rw [if_neg c1] at h
    refine x_iload_n F dX8_hasWriter_4 rfl 1 rfl ?_
    refine x_aload_n F dX8_hasWriter_5 rfl 0 rfl ?_
    obtain ⟨x6, c6, h⟩ := bdS h
    refine x_getI F (ci := 8) (C := RX8) (T := TX8) (N := 17) rfl ⟨by decide, rfl⟩ inU8 6 (by decide) (fun _ _ _ => rfl) wl_488 c6 dX8_hasWriter_6 ?_
    refine x_icmp_ge F (tgt := 16) dX8_hasWriter_9 (by decide) (fun c9 => ?_) (fun c9 => ?_)
    · rw [if_pos c9] at h
      refine x_iconst F (v := 0) dX8_hasWriter_16 (by decide) ?_
      obtain ⟨rfl, rfl⟩ := retS h
      exact x_zret F hr hl (by decide) dX8_hasWriter_17
    · rw [if_neg c9] at h
      refine x_iconst F (v := 1) dX8_hasWriter_12 (by decide) ?_
      refine x_goto F (tgt := 17) dX8_hasWriter_13 (by decide) ?_
      obtain ⟨rfl, rfl⟩ := retS h
      exact x_zret F hr hl (by decide) dX8_hasWriter_17
theorem dX8_strokesOf_0 : decode cX8_strokesOf 0 = .ok (.iconst 0, 1) := by decide +kernel
theorem dX8_strokesOf_1 : decode cX8_strokesOf 1 = .ok (.istore_n 2, 1) := by decide +kernel
theorem dX8_strokesOf_2 : decode cX8_strokesOf 2 = .ok (.iconst 0, 1) := by decide +kernel
theorem dX8_strokesOf_3 : decode cX8_strokesOf 3 = .ok (.istore_n 3, 1) := by decide +kernel
theorem dX8_strokesOf_4 : decode cX8_strokesOf 4 = .ok (.iload_n 3, 1) := by decide +kernel
theorem dX8_strokesOf_5 : decode cX8_strokesOf 5 = .ok (.aload_n 0, 1) := by decide +kernel
theorem dX8_strokesOf_6 : decode cX8_strokesOf 6 = .ok (.getfield 50, 3) := by decide +kernel
theorem dX8_strokesOf_9 : decode cX8_strokesOf 9 = .ok (.iload_n 1, 1) := by decide +kernel
theorem dX8_strokesOf_10 : decode cX8_strokesOf 10 = .ok (.iaload, 1) := by decide +kernel
theorem dX8_strokesOf_11 : decode cX8_strokesOf 11 = .ok (.if_icmp .ge 22, 3) := by decide +kernel
theorem dX8_strokesOf_14 : decode cX8_strokesOf 14 = .ok (.iload_n 2, 1) := by decide +kernel
theorem dX8_strokesOf_15 : decode cX8_strokesOf 15 = .ok (.getstatic 155, 3) := by decide +kernel
theorem dX8_strokesOf_18 : decode cX8_strokesOf 18 = .ok (.aload_n 0, 1) := by decide +kernel
theorem dX8_strokesOf_19 : decode cX8_strokesOf 19 = .ok (.iload_n 1, 1) := by decide +kernel
theorem dX8_strokesOf_20 : decode cX8_strokesOf 20 = .ok (.iload_n 3, 1) := by decide +kernel
theorem dX8_strokesOf_21 : decode cX8_strokesOf 21 = .ok (.invokevirtual 158, 3) := by decide +kernel
theorem dX8_strokesOf_24 : decode cX8_strokesOf 24 = .ok (.iaload, 1) := by decide +kernel
theorem dX8_strokesOf_25 : decode cX8_strokesOf 25 = .ok (.iadd, 1) := by decide +kernel
theorem dX8_strokesOf_26 : decode cX8_strokesOf 26 = .ok (.istore_n 2, 1) := by decide +kernel
theorem dX8_strokesOf_27 : decode cX8_strokesOf 27 = .ok (.iinc 3 1, 3) := by decide +kernel
theorem dX8_strokesOf_30 : decode cX8_strokesOf 30 = .ok (.goto (-26), 3) := by decide +kernel
theorem dX8_strokesOf_33 : decode cX8_strokesOf 33 = .ok (.iload_n 2, 1) := by decide +kernel
theorem dX8_strokesOf_34 : decode cX8_strokesOf 34 = .ok (.ireturn, 1) := by decide +kernel
def fX8_strokesOf_L4 (N : Nat) (v0 : Nat) (v1 : Int32) : Nat → Int32 → Int32 → Mem → Option (Int32 × Mem)
  | 0, _, _, _ => none
  | n + 1, v2, v3, M => ((fR M 8 v0 12).bind fun x6 => ((aI M x6 v1).bind fun x10 => (if x10 ≤ v3 then some (v2, M) else (if mK M v0 = 9 then ((fX8_lawSign N v0 v1 v3 M).bind fun (x21, M21) => ((kS x21).bind fun x24 => fX8_strokesOf_L4 N v0 v1 n (v2 + x24) (v3 + 1) M21)) else none))))
def fX8_strokesOf (N : Nat) (v0 : Nat) (v1 : Int32) (M : Mem) : Option (Int32 × Mem) := ((fX8_strokesOf_L4 N v0 v1 N 0 0 M).bind fun o4 => some o4)
set_option maxHeartbeats 4000000 in
set_option maxRecDepth 100000 in
theorem k_X8_strokesOf (l : Launch) (b : Nat) (D : va_G) (cy : Nat → ClassId) (N : Nat) (v0 : Nat) (v1 : Int32) (M : Mem) (r : Int32) (Mf : Mem) (h : fX8_strokesOf N v0 v1 M = some (r, Mf)) : Ct l yX8_strokesOf cX8_strokesOf 4 (some .int) 2 0 0 b D cy [.ref (b + v0), .int v1] M (some (.int r)) Mf := by
  refine Ct_of (own := RX8) (by decide) rfl (Nat.le_of_ble_eq_true rfl) ?_
  intro p e s m args below meth c F hr hl hmn
  unfold fX8_strokesOf at h
  show X p l e ({ frames := 2, cells := 0, slots := 0, locals := 100 * 2 }) s m args below meth c (MQ below (Qm b D cy (some (.int r)) Mf) args s 0 0 (fun q => b ≤ q)) 4 b D cy 0 0 M 0 [(0, .ref (b + v0)), (1, .int v1)] []
  refine x_iconst F (v := 0) dX8_strokesOf_0 (by decide) ?_
  refine x_istore_n F (lv' := [(2, .int 0), (0, .ref (b + v0)), (1, .int v1)]) dX8_strokesOf_1 rfl (by decide) rfl ?_
  refine x_iconst F (v := 0) dX8_strokesOf_2 (by decide) ?_
  refine x_istore_n F (lv' := [(3, .int 0), (2, .int 0), (0, .ref (b + v0)), (1, .int v1)]) dX8_strokesOf_3 rfl (by decide) rfl ?_
  have L4 : ∀ (v0 : Nat) (v1 : Int32) (n : Nat) (v2 : Int32) (v3 : Int32) (M : Mem) (o : Int32 × Mem), fX8_strokesOf_L4 N v0 v1 n v2 v3 M = some o → (∀ (r' : Int32) (M' : Mem), o = (r', M') → r' = r ∧ M' = Mf) → X p l e ({ frames := 2, cells := 0, slots := 0, locals := 100 * 2 }) s m args below meth c (MQ below (Qm b D cy (some (.int r)) Mf) args s 0 0 (fun q => b ≤ q)) 4 b D cy 0 0 M 4 [(0, .ref (b + v0)), (1, .int v1), (2, .int v2), (3, .int v3)] [] := by
    intro v0 v1 n
    induction n with
    | zero => intro v2 v3 M o h; exact absurd h (by rw [fX8_strokesOf_L4]; exact fun z => by cases z)
    | succ n ih =>
      intro v2 v3 M o h hR
      rw [fX8_strokesOf_L4] at h
      refine x_iload_n F dX8_strokesOf_4 rfl 3 rfl ?_
      refine x_aload_n F dX8_strokesOf_5 rfl 0 rfl ?_
      obtain ⟨x6, c6, h⟩ := bdS h
      refine x_getR F (ci := 8) (C := RX8) (T := TX8) (N := 17) rfl ⟨by decide, rfl⟩ inU8 12 (by decide) (fun _ _ _ => rfl) wl_101 c6 dX8_strokesOf_6 ?_
      refine x_iload_n F dX8_strokesOf_9 rfl 1 rfl ?_
      obtain ⟨x10, c10, h⟩ := bdS h
      refine x_aI F c10 dX8_strokesOf_10 ?_
      refine x_icmp_ge F (tgt := 33) dX8_strokesOf_11 (by decide) (fun c11 => ?_) (fun c11 => ?_)
      · rw [if_pos c11] at h
        refine x_iload_n F dX8_strokesOf_33 rfl 2 rfl ?_
        obtain rfl := Option.some.inj h
        obtain ⟨rfl, rfl⟩ := hR _ _ rfl
        exact x_iret F hr hl dX8_strokesOf_34
      · rw [if_neg c11] at h
        refine x_iload_n F dX8_strokesOf_14 rfl 2 rfl ?_
        refine x_stk F (by decide +kernel) dX8_strokesOf_15 (fun aS g2 => ?_)
        refine x_aload_n F dX8_strokesOf_18 rfl 0 rfl ?_
        refine x_iload_n F dX8_strokesOf_19 rfl 1 rfl ?_
        refine x_iload_n F dX8_strokesOf_20 rfl 3 rfl ?_
        obtain ⟨k21, h⟩ := gdS h
        obtain ⟨⟨x21, M21⟩, c21, h⟩ := bdS h
        dsimp only at h
        refine x_callV F (As := [.int v1, .int v3]) (rest := [.ref aS, .int v2]) (res := (some (.int x21))) (ci := 8) (q := (RX8, TX8, 17)) rfl (by decide) k21 (k_X8_lawSign l b D cy N v0 v1 v3 M _ _ c21) wl_102 wl_103 wl_104 wl_75 wl_98 hd_X8_lawSign ⟨Nat.le_of_ble_eq_true rfl, Nat.le_of_ble_eq_true rfl⟩ ⟨Nat.le_refl _, Nat.le_refl _⟩ (Nat.le_of_ble_eq_true rfl) rfl dX8_strokesOf_21 ?_
        obtain ⟨x24, c24, h⟩ := bdS h
        refine x_kS F g2 c24 dX8_strokesOf_24 ?_
        refine x_iadd F dX8_strokesOf_25 ?_
        refine x_istore_n F (lv' := [(2, .int (v2 + x24)), (0, .ref (b + v0)), (1, .int v1), (3, .int v3)]) dX8_strokesOf_26 rfl (by decide) rfl ?_
        refine x_iinc F (v := v3 + 1) (lv' := [(3, .int (v3 + 1)), (2, .int (v2 + x24)), (0, .ref (b + v0)), (1, .int v1)]) dX8_strokesOf_27 3 rfl rfl (by decide) rfl ?_
        refine x_goto F (tgt := 4) dX8_strokesOf_30 (by decide) ?_
        refine x_sub [2, 3, 1, 0] rfl ?_
        exact ih (v2 + x24) (v3 + 1) M21 o h hR
  obtain ⟨o4, h4, h⟩ := bdS h
  refine x_sub [2, 3, 1, 0] rfl ?_
  refine L4 v0 v1 N 0 0 M o4 h4 (fun r' M' e => ?_)
  · subst e
    try dsimp only at h
    obtain ⟨rfl, rfl⟩ := retS h; exact ⟨rfl, rfl⟩
theorem dX8_differences_0 : decode cX8_differences 0 = .ok (.iconst 0, 1) := by decide +kernel
theorem dX8_differences_1 : decode cX8_differences 1 = .ok (.istore_n 3, 1) := by decide +kernel
theorem dX8_differences_2 : decode cX8_differences 2 = .ok (.iconst 0, 1) := by decide +kernel
theorem dX8_differences_3 : decode cX8_differences 3 = .ok (.istore 4, 2) := by decide +kernel
theorem dX8_differences_5 : decode cX8_differences 5 = .ok (.iload 4, 2) := by decide +kernel
theorem dX8_differences_7 : decode cX8_differences 7 = .ok (.aload_n 0, 1) := by decide +kernel
theorem dX8_differences_8 : decode cX8_differences 8 = .ok (.getfield 50, 3) := by decide +kernel
theorem dX8_differences_11 : decode cX8_differences 11 = .ok (.iload_n 1, 1) := by decide +kernel
theorem dX8_differences_12 : decode cX8_differences 12 = .ok (.iaload, 1) := by decide +kernel
theorem dX8_differences_13 : decode cX8_differences 13 = .ok (.if_icmp .ge 29, 3) := by decide +kernel
theorem dX8_differences_16 : decode cX8_differences 16 = .ok (.aload_n 0, 1) := by decide +kernel
theorem dX8_differences_17 : decode cX8_differences 17 = .ok (.iload_n 1, 1) := by decide +kernel
theorem dX8_differences_18 : decode cX8_differences 18 = .ok (.iload 4, 2) := by decide +kernel
theorem dX8_differences_20 : decode cX8_differences 20 = .ok (.invokevirtual 158, 3) := by decide +kernel
theorem dX8_differences_23 : decode cX8_differences 23 = .ok (.aload_n 0, 1) := by decide +kernel
theorem dX8_differences_24 : decode cX8_differences 24 = .ok (.iload_n 2, 1) := by decide +kernel
theorem dX8_differences_25 : decode cX8_differences 25 = .ok (.iload 4, 2) := by decide +kernel
theorem dX8_differences_27 : decode cX8_differences 27 = .ok (.invokevirtual 158, 3) := by decide +kernel
theorem dX8_differences_30 : decode cX8_differences 30 = .ok (.if_icmp .eq 6, 3) := by decide +kernel
theorem dX8_differences_33 : decode cX8_differences 33 = .ok (.iinc 3 1, 3) := by decide +kernel
theorem dX8_differences_36 : decode cX8_differences 36 = .ok (.iinc 4 1, 3) := by decide +kernel
theorem dX8_differences_39 : decode cX8_differences 39 = .ok (.goto (-34), 3) := by decide +kernel
theorem dX8_differences_42 : decode cX8_differences 42 = .ok (.iload_n 3, 1) := by decide +kernel
theorem dX8_differences_43 : decode cX8_differences 43 = .ok (.ireturn, 1) := by decide +kernel
def fX8_differences_L5 (N : Nat) (v0 : Nat) (v1 : Int32) (v2 : Int32) : Nat → Int32 → Int32 → Mem → Option (Int32 × Mem)
  | 0, _, _, _ => none
  | n + 1, v3, v4, M => ((fR M 8 v0 12).bind fun x8 => ((aI M x8 v1).bind fun x12 => (if x12 ≤ v4 then some (v3, M) else (if mK M v0 = 9 then ((fX8_lawSign N v0 v1 v4 M).bind fun (x20, M20) => (if mK M20 v0 = 9 then ((fX8_lawSign N v0 v2 v4 M20).bind fun (x27, M27) => (if x20 = x27 then fX8_differences_L5 N v0 v1 v2 n v3 (v4 + 1) M27 else fX8_differences_L5 N v0 v1 v2 n (v3 + 1) (v4 + 1) M27)) else none)) else none))))
def fX8_differences (N : Nat) (v0 : Nat) (v1 : Int32) (v2 : Int32) (M : Mem) : Option (Int32 × Mem) := ((fX8_differences_L5 N v0 v1 v2 N 0 0 M).bind fun o5 => some o5)
set_option maxHeartbeats 4000000 in
set_option maxRecDepth 100000 in
theorem k_X8_differences (l : Launch) (b : Nat) (D : va_G) (cy : Nat → ClassId) (N : Nat) (v0 : Nat) (v1 : Int32) (v2 : Int32) (M : Mem) (r : Int32) (Mf : Mem) (h : fX8_differences N v0 v1 v2 M = some (r, Mf)) : Ct l yX8_differences cX8_differences 5 (some .int) 2 0 0 b D cy [.ref (b + v0), .int v1, .int v2] M (some (.int r)) Mf := by
  refine Ct_of (own := RX8) (by decide) rfl (Nat.le_of_ble_eq_true rfl) ?_
  intro p e s m args below meth c F hr hl hmn
  unfold fX8_differences at h
  show X p l e ({ frames := 2, cells := 0, slots := 0, locals := 100 * 2 }) s m args below meth c (MQ below (Qm b D cy (some (.int r)) Mf) args s 0 0 (fun q => b ≤ q)) 5 b D cy 0 0 M 0 [(0, .ref (b + v0)), (1, .int v1), (2, .int v2)] []
  refine x_iconst F (v := 0) dX8_differences_0 (by decide) ?_
  refine x_istore_n F (lv' := [(3, .int 0), (0, .ref (b + v0)), (1, .int v1), (2, .int v2)]) dX8_differences_1 rfl (by decide) rfl ?_
  refine x_iconst F (v := 0) dX8_differences_2 (by decide) ?_
  refine x_istore F (lv' := [(4, .int 0), (3, .int 0), (0, .ref (b + v0)), (1, .int v1), (2, .int v2)]) dX8_differences_3 (by decide) rfl ?_
  have L5 : ∀ (v0 : Nat) (v1 : Int32) (v2 : Int32) (n : Nat) (v3 : Int32) (v4 : Int32) (M : Mem) (o : Int32 × Mem), fX8_differences_L5 N v0 v1 v2 n v3 v4 M = some o → (∀ (r' : Int32) (M' : Mem), o = (r', M') → r' = r ∧ M' = Mf) → X p l e ({ frames := 2, cells := 0, slots := 0, locals := 100 * 2 }) s m args below meth c (MQ below (Qm b D cy (some (.int r)) Mf) args s 0 0 (fun q => b ≤ q)) 5 b D cy 0 0 M 5 [(0, .ref (b + v0)), (1, .int v1), (2, .int v2), (3, .int v3), (4, .int v4)] [] := by
    intro v0 v1 v2 n
    induction n with
    | zero => intro v3 v4 M o h; exact absurd h (by rw [fX8_differences_L5]; exact fun z => by cases z)
    | succ n ih =>
      intro v3 v4 M o h hR
      rw [fX8_differences_L5] at h
      refine x_iload F dX8_differences_5 4 rfl ?_
      refine x_aload_n F dX8_differences_7 rfl 0 rfl ?_
      obtain ⟨x8, c8, h⟩ := bdS h
      refine x_getR F (ci := 8) (C := RX8) (T := TX8) (N := 17) rfl ⟨by decide, rfl⟩ inU8 12 (by decide) (fun _ _ _ => rfl) wl_101 c8 dX8_differences_8 ?_
      refine x_iload_n F dX8_differences_11 rfl 1 rfl ?_
      obtain ⟨x12, c12, h⟩ := bdS h
      refine x_aI F c12 dX8_differences_12 ?_
      refine x_icmp_ge F (tgt := 42) dX8_differences_13 (by decide) (fun c13 => ?_) (fun c13 => ?_)
      · rw [if_pos c13] at h
        refine x_iload_n F dX8_differences_42 rfl 3 rfl ?_
        obtain rfl := Option.some.inj h
        obtain ⟨rfl, rfl⟩ := hR _ _ rfl
        exact x_iret F hr hl dX8_differences_43
      · rw [if_neg c13] at h
        refine x_aload_n F dX8_differences_16 rfl 0 rfl ?_
        refine x_iload_n F dX8_differences_17 rfl 1 rfl ?_
        refine x_iload F dX8_differences_18 4 rfl ?_
        obtain ⟨k20, h⟩ := gdS h
        obtain ⟨⟨x20, M20⟩, c20, h⟩ := bdS h
        dsimp only at h
        refine x_callV F (As := [.int v1, .int v4]) (rest := []) (res := (some (.int x20))) (ci := 8) (q := (RX8, TX8, 17)) rfl (by decide) k20 (k_X8_lawSign l b D cy N v0 v1 v4 M _ _ c20) wl_102 wl_103 wl_104 wl_75 wl_98 hd_X8_lawSign ⟨Nat.le_of_ble_eq_true rfl, Nat.le_of_ble_eq_true rfl⟩ ⟨Nat.le_refl _, Nat.le_refl _⟩ (Nat.le_of_ble_eq_true rfl) rfl dX8_differences_20 ?_
        refine x_aload_n F dX8_differences_23 rfl 0 rfl ?_
        refine x_iload_n F dX8_differences_24 rfl 2 rfl ?_
        refine x_iload F dX8_differences_25 4 rfl ?_
        obtain ⟨k27, h⟩ := gdS h
        obtain ⟨⟨x27, M27⟩, c27, h⟩ := bdS h
        dsimp only at h
        refine x_callV F (As := [.int v2, .int v4]) (rest := [.int x20]) (res := (some (.int x27))) (ci := 8) (q := (RX8, TX8, 17)) rfl (by decide) k27 (k_X8_lawSign l b D cy N v0 v2 v4 M20 _ _ c27) wl_102 wl_103 wl_104 wl_75 wl_98 hd_X8_lawSign ⟨Nat.le_of_ble_eq_true rfl, Nat.le_of_ble_eq_true rfl⟩ ⟨Nat.le_refl _, Nat.le_refl _⟩ (Nat.le_of_ble_eq_true rfl) rfl dX8_differences_27 ?_
        refine x_icmp_eq F (tgt := 36) dX8_differences_30 (by decide) (fun c30 => ?_) (fun c30 => ?_)
        · rw [if_pos c30] at h
          refine x_iinc F (v := v4 + 1) (lv' := [(4, .int (v4 + 1)), (0, .ref (b + v0)), (1, .int v1), (2, .int v2), (3, .int v3)]) dX8_differences_36 4 rfl rfl (by decide) rfl ?_
          refine x_goto F (tgt := 5) dX8_differences_39 (by decide) ?_
          refine x_sub [1, 2, 3, 4, 0] rfl ?_
          exact ih v3 (v4 + 1) M27 o h hR
        · rw [if_neg c30] at h
          refine x_iinc F (v := v3 + 1) (lv' := [(3, .int (v3 + 1)), (0, .ref (b + v0)), (1, .int v1), (2, .int v2), (4, .int v4)]) dX8_differences_33 3 rfl rfl (by decide) rfl ?_
          refine x_iinc F (v := v4 + 1) (lv' := [(4, .int (v4 + 1)), (3, .int (v3 + 1)), (0, .ref (b + v0)), (1, .int v1), (2, .int v2)]) dX8_differences_36 4 rfl rfl (by decide) rfl ?_
          refine x_goto F (tgt := 5) dX8_differences_39 (by decide) ?_
          refine x_sub [2, 3, 4, 1, 0] rfl ?_
          exact ih (v3 + 1) (v4 + 1) M27 o h hR
  obtain ⟨o5, h5, h⟩ := bdS h
  refine x_sub [2, 3, 4, 1, 0] rfl ?_
  refine L5 v0 v1 v2 N 0 0 M o5 h5 (fun r' M' e => ?_)
  · subst e
    try dsimp only at h
    obtain ⟨rfl, rfl⟩ := retS h; exact ⟨rfl, rfl⟩
theorem hd_X8_differences : (yX8_differences).cls = RX8 ∧ (yX8_differences).cls ≠ "java/lang/invoke/MethodHandle" ∧ (yX8_differences).cls ≠ "java/lang/invoke/VarHandle" ∧ (parseMethodDescriptor (yX8_differences).desc).map (fun d => d.parameters.length) = some 2 := by decide +kernel
theorem dX8_signsToLose_0 : decode cX8_signsToLose 0 = .ok (.aload_n 0, 1) := by decide +kernel
theorem dX8_signsToLose_1 : decode cX8_signsToLose 1 = .ok (.getfield 50, 3) := by decide +kernel
theorem dX8_signsToLose_4 : decode cX8_signsToLose 4 = .ok (.iload_n 1, 1) := by decide +kernel
theorem dX8_signsToLose_5 : decode cX8_signsToLose 5 = .ok (.iaload, 1) := by decide +kernel
theorem dX8_signsToLose_6 : decode cX8_signsToLose 6 = .ok (.iconst 1, 1) := by decide +kernel
theorem dX8_signsToLose_7 : decode cX8_signsToLose 7 = .ok (.iadd, 1) := by decide +kernel
theorem dX8_signsToLose_8 : decode cX8_signsToLose 8 = .ok (.istore_n 2, 1) := by decide +kernel
theorem dX8_signsToLose_9 : decode cX8_signsToLose 9 = .ok (.iconst 0, 1) := by decide +kernel
theorem dX8_signsToLose_10 : decode cX8_signsToLose 10 = .ok (.istore_n 3, 1) := by decide +kernel
theorem dX8_signsToLose_11 : decode cX8_signsToLose 11 = .ok (.iload_n 3, 1) := by decide +kernel
theorem dX8_signsToLose_12 : decode cX8_signsToLose 12 = .ok (.aload_n 0, 1) := by decide +kernel
theorem dX8_signsToLose_13 : decode cX8_signsToLose 13 = .ok (.getfield 41, 3) := by decide +kernel
theorem dX8_signsToLose_16 : decode cX8_signsToLose 16 = .ok (.if_icmp .ge 40, 3) := by decide +kernel
theorem dX8_signsToLose_19 : decode cX8_signsToLose 19 = .ok (.iload_n 3, 1) := by decide +kernel
theorem dX8_signsToLose_20 : decode cX8_signsToLose 20 = .ok (.iload_n 1, 1) := by decide +kernel
theorem dX8_signsToLose_21 : decode cX8_signsToLose 21 = .ok (.if_icmp .eq 29, 3) := by decide +kernel
theorem dX8_signsToLose_24 : decode cX8_signsToLose 24 = .ok (.aload_n 0, 1) := by decide +kernel
theorem dX8_signsToLose_25 : decode cX8_signsToLose 25 = .ok (.getfield 50, 3) := by decide +kernel
theorem dX8_signsToLose_28 : decode cX8_signsToLose 28 = .ok (.iload_n 3, 1) := by decide +kernel
theorem dX8_signsToLose_29 : decode cX8_signsToLose 29 = .ok (.iaload, 1) := by decide +kernel
theorem dX8_signsToLose_30 : decode cX8_signsToLose 30 = .ok (.aload_n 0, 1) := by decide +kernel
theorem dX8_signsToLose_31 : decode cX8_signsToLose 31 = .ok (.getfield 50, 3) := by decide +kernel
theorem dX8_signsToLose_34 : decode cX8_signsToLose 34 = .ok (.iload_n 1, 1) := by decide +kernel
theorem dX8_signsToLose_35 : decode cX8_signsToLose 35 = .ok (.iaload, 1) := by decide +kernel
theorem dX8_signsToLose_36 : decode cX8_signsToLose 36 = .ok (.if_icmp .ne 14, 3) := by decide +kernel
theorem dX8_signsToLose_39 : decode cX8_signsToLose 39 = .ok (.iload_n 2, 1) := by decide +kernel
theorem dX8_signsToLose_40 : decode cX8_signsToLose 40 = .ok (.aload_n 0, 1) := by decide +kernel
theorem dX8_signsToLose_41 : decode cX8_signsToLose 41 = .ok (.iload_n 1, 1) := by decide +kernel
theorem dX8_signsToLose_42 : decode cX8_signsToLose 42 = .ok (.iload_n 3, 1) := by decide +kernel
theorem dX8_signsToLose_43 : decode cX8_signsToLose 43 = .ok (.invokevirtual 169, 3) := by decide +kernel
theorem dX8_signsToLose_46 : decode cX8_signsToLose 46 = .ok (.invokestatic 172, 3) := by decide +kernel
theorem dX8_signsToLose_49 : decode cX8_signsToLose 49 = .ok (.istore_n 2, 1) := by decide +kernel
theorem dX8_signsToLose_50 : decode cX8_signsToLose 50 = .ok (.iinc 3 1, 3) := by decide +kernel
theorem dX8_signsToLose_53 : decode cX8_signsToLose 53 = .ok (.goto (-42), 3) := by decide +kernel
theorem dX8_signsToLose_56 : decode cX8_signsToLose 56 = .ok (.iload_n 2, 1) := by decide +kernel
theorem dX8_signsToLose_57 : decode cX8_signsToLose 57 = .ok (.iconst 1, 1) := by decide +kernel
theorem dX8_signsToLose_58 : decode cX8_signsToLose 58 = .ok (.isub, 1) := by decide +kernel
theorem dX8_signsToLose_59 : decode cX8_signsToLose 59 = .ok (.ireturn, 1) := by decide +kernel
def fX8_signsToLose_L11 (N : Nat) (v0 : Nat) (v1 : Int32) : Nat → Int32 → Int32 → Mem → Option (Int32 × Mem)
  | 0, _, _, _ => none
  | n + 1, v2, v3, M => ((fI M 8 v0 9).bind fun x13 => (if x13 ≤ v3 then some (v2 - 1, M) else (if v3 = v1 then fX8_signsToLose_L11 N v0 v1 n v2 (v3 + 1) M else ((fR M 8 v0 12).bind fun x25 => ((aI M x25 v3).bind fun x29 => ((fR M 8 v0 12).bind fun x31 => ((aI M x31 v1).bind fun x35 => (if x29 = x35 then (if mK M v0 = 9 then ((fX8_differences N v0 v1 v3 M).bind fun (x43, M43) => fX8_signsToLose_L11 N v0 v1 n (if x43 < v2 then x43 else v2) (v3 + 1) M43) else none) else fX8_signsToLose_L11 N v0 v1 n v2 (v3 + 1) M))))))))
def fX8_signsToLose (N : Nat) (v0 : Nat) (v1 : Int32) (M : Mem) : Option (Int32 × Mem) := ((fR M 8 v0 12).bind fun x1 => ((aI M x1 v1).bind fun x5 => ((fX8_signsToLose_L11 N v0 v1 N (x5 + 1) 0 M).bind fun o11 => some o11)))
set_option maxHeartbeats 4000000 in
set_option maxRecDepth 100000 in
theorem k_X8_signsToLose (l : Launch) (b : Nat) (D : va_G) (cy : Nat → ClassId) (N : Nat) (v0 : Nat) (v1 : Int32) (M : Mem) (r : Int32) (Mf : Mem) (h : fX8_signsToLose N v0 v1 M = some (r, Mf)) : Ct l yX8_signsToLose cX8_signsToLose 4 (some .int) 3 0 0 b D cy [.ref (b + v0), .int v1] M (some (.int r)) Mf := by
  refine Ct_of (own := RX8) (by decide) rfl (Nat.le_of_ble_eq_true rfl) ?_
  intro p e s m args below meth c F hr hl hmn
  unfold fX8_signsToLose at h
  show X p l e ({ frames := 3, cells := 0, slots := 0, locals := 100 * 3 }) s m args below meth c (MQ below (Qm b D cy (some (.int r)) Mf) args s 0 0 (fun q => b ≤ q)) 4 b D cy 0 0 M 0 [(0, .ref (b + v0)), (1, .int v1)] []
  refine x_aload_n F dX8_signsToLose_0 rfl 0 rfl ?_
  obtain ⟨x1, c1, h⟩ := bdS h
  refine x_getR F (ci := 8) (C := RX8) (T := TX8) (N := 17) rfl ⟨by decide, rfl⟩ inU8 12 (by decide) (fun _ _ _ => rfl) wl_101 c1 dX8_signsToLose_1 ?_
  refine x_iload_n F dX8_signsToLose_4 rfl 1 rfl ?_
  obtain ⟨x5, c5, h⟩ := bdS h
  refine x_aI F c5 dX8_signsToLose_5 ?_
  refine x_iconst F (v := 1) dX8_signsToLose_6 (by decide) ?_
  refine x_iadd F dX8_signsToLose_7 ?_
  refine x_istore_n F (lv' := [(2, .int (x5 + 1)), (0, .ref (b + v0)), (1, .int v1)]) dX8_signsToLose_8 rfl (by decide) rfl ?_
  refine x_iconst F (v := 0) dX8_signsToLose_9 (by decide) ?_
  refine x_istore_n F (lv' := [(3, .int 0), (2, .int (x5 + 1)), (0, .ref (b + v0)), (1, .int v1)]) dX8_signsToLose_10 rfl (by decide) rfl ?_
  have L11 : ∀ (v0 : Nat) (v1 : Int32) (n : Nat) (v2 : Int32) (v3 : Int32) (M : Mem) (o : Int32 × Mem), fX8_signsToLose_L11 N v0 v1 n v2 v3 M = some o → (∀ (r' : Int32) (M' : Mem), o = (r', M') → r' = r ∧ M' = Mf) → X p l e ({ frames := 3, cells := 0, slots := 0, locals := 100 * 3 }) s m args below meth c (MQ below (Qm b D cy (some (.int r)) Mf) args s 0 0 (fun q => b ≤ q)) 4 b D cy 0 0 M 11 [(0, .ref (b + v0)), (1, .int v1), (2, .int v2), (3, .int v3)] [] := by
    intro v0 v1 n
    induction n with
    | zero => intro v2 v3 M o h; exact absurd h (by rw [fX8_signsToLose_L11]; exact fun z => by cases z)
    | succ n ih =>
      intro v2 v3 M o h hR
      rw [fX8_signsToLose_L11] at h
      refine x_iload_n F dX8_signsToLose_11 rfl 3 rfl ?_
      refine x_aload_n F dX8_signsToLose_12 rfl 0 rfl ?_
      obtain ⟨x13, c13, h⟩ := bdS h
      refine x_getI F (ci := 8) (C := RX8) (T := TX8) (N := 17) rfl ⟨by decide, rfl⟩ inU8 9 (by decide) (fun _ _ _ => rfl) wl_110 c13 dX8_signsToLose_13 ?_
      refine x_icmp_ge F (tgt := 56) dX8_signsToLose_16 (by decide) (fun c16 => ?_) (fun c16 => ?_)
      · rw [if_pos c16] at h
        refine x_iload_n F dX8_signsToLose_56 rfl 2 rfl ?_
        refine x_iconst F (v := 1) dX8_signsToLose_57 (by decide) ?_
        refine x_isub F dX8_signsToLose_58 ?_
        obtain rfl := Option.some.inj h
        obtain ⟨rfl, rfl⟩ := hR _ _ rfl
        exact x_iret F hr hl dX8_signsToLose_59
      · rw [if_neg c16] at h
        refine x_iload_n F dX8_signsToLose_19 rfl 3 rfl ?_
        refine x_iload_n F dX8_signsToLose_20 rfl 1 rfl ?_
        refine x_icmp_eq F (tgt := 50) dX8_signsToLose_21 (by decide) (fun c21 => ?_) (fun c21 => ?_)
        · rw [if_pos c21] at h
          refine x_iinc F (v := v3 + 1) (lv' := [(3, .int (v3 + 1)), (0, .ref (b + v0)), (1, .int v1), (2, .int v2)]) dX8_signsToLose_50 3 rfl rfl (by decide) rfl ?_
          refine x_goto F (tgt := 11) dX8_signsToLose_53 (by decide) ?_
          refine x_sub [1, 2, 3, 0] rfl ?_
          exact ih v2 (v3 + 1) M o h hR
        · rw [if_neg c21] at h
          refine x_aload_n F dX8_signsToLose_24 rfl 0 rfl ?_
          obtain ⟨x25, c25, h⟩ := bdS h
          refine x_getR F (ci := 8) (C := RX8) (T := TX8) (N := 17) rfl ⟨by decide, rfl⟩ inU8 12 (by decide) (fun _ _ _ => rfl) wl_101 c25 dX8_signsToLose_25 ?_
          refine x_iload_n F dX8_signsToLose_28 rfl 3 rfl ?_
          obtain ⟨x29, c29, h⟩ := bdS h
          refine x_aI F c29 dX8_signsToLose_29 ?_
          refine x_aload_n F dX8_signsToLose_30 rfl 0 rfl ?_
          obtain ⟨x31, c31, h⟩ := bdS h
          refine x_getR F (ci := 8) (C := RX8) (T := TX8) (N := 17) rfl ⟨by decide, rfl⟩ inU8 12 (by decide) (fun _ _ _ => rfl) wl_101 c31 dX8_signsToLose_31 ?_
          refine x_iload_n F dX8_signsToLose_34 rfl 1 rfl ?_
          obtain ⟨x35, c35, h⟩ := bdS h
          refine x_aI F c35 dX8_signsToLose_35 ?_
          refine x_icmp_ne F (tgt := 50) dX8_signsToLose_36 (by decide) (fun c36 => ?_) (fun c36 => ?_)
          · rw [if_neg c36] at h
            refine x_iinc F (v := v3 + 1) (lv' := [(3, .int (v3 + 1)), (0, .ref (b + v0)), (1, .int v1), (2, .int v2)]) dX8_signsToLose_50 3 rfl rfl (by decide) rfl ?_
            refine x_goto F (tgt := 11) dX8_signsToLose_53 (by decide) ?_
            refine x_sub [1, 2, 3, 0] rfl ?_
            exact ih v2 (v3 + 1) M o h hR
          · rw [if_pos c36] at h
            refine x_iload_n F dX8_signsToLose_39 rfl 2 rfl ?_
            refine x_aload_n F dX8_signsToLose_40 rfl 0 rfl ?_
            refine x_iload_n F dX8_signsToLose_41 rfl 1 rfl ?_
            refine x_iload_n F dX8_signsToLose_42 rfl 3 rfl ?_
            obtain ⟨k43, h⟩ := gdS h
            obtain ⟨⟨x43, M43⟩, c43, h⟩ := bdS h
            dsimp only at h
            refine x_callV F (As := [.int v1, .int v3]) (rest := [.int v2]) (res := (some (.int x43))) (ci := 8) (q := (RX8, TX8, 17)) rfl (by decide) k43 (k_X8_differences l b D cy N v0 v1 v3 M _ _ c43) wl_558 wl_559 wl_560 wl_75 wl_555 hd_X8_differences ⟨Nat.le_of_ble_eq_true rfl, Nat.le_of_ble_eq_true rfl⟩ ⟨Nat.le_refl _, Nat.le_refl _⟩ (Nat.le_of_ble_eq_true rfl) rfl dX8_signsToLose_43 ?_
            refine x_min F wl_557 wl_335 wl_120 wl_336 (Nat.le_of_ble_eq_true rfl) (Nat.le_of_ble_eq_true rfl) ⟨Nat.le_refl _, Nat.le_refl _⟩ dX8_signsToLose_46 ?_
            refine x_istore_n F (lv' := [(2, .int (if x43 < v2 then x43 else v2)), (0, .ref (b + v0)), (1, .int v1), (3, .int v3)]) dX8_signsToLose_49 rfl (by decide) rfl ?_
            refine x_iinc F (v := v3 + 1) (lv' := [(3, .int (v3 + 1)), (2, .int (if x43 < v2 then x43 else v2)), (0, .ref (b + v0)), (1, .int v1)]) dX8_signsToLose_50 3 rfl rfl (by decide) rfl ?_
            refine x_goto F (tgt := 11) dX8_signsToLose_53 (by decide) ?_
            refine x_sub [2, 3, 1, 0] rfl ?_
            exact ih (if x43 < v2 then x43 else v2) (v3 + 1) M43 o h hR
  obtain ⟨o11, h11, h⟩ := bdS h
  refine x_sub [2, 3, 1, 0] rfl ?_
  refine L11 v0 v1 N (x5 + 1) 0 M o11 h11 (fun r' M' e => ?_)
  · subst e
    try dsimp only at h
    obtain ⟨rfl, rfl⟩ := retS h; exact ⟨rfl, rfl⟩
