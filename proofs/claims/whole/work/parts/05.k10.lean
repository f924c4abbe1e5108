theorem hd_X11_readWrites : (yX11_readWrites).cls = RX11 ∧ (yX11_readWrites).cls ≠ "java/lang/invoke/MethodHandle" ∧ (yX11_readWrites).cls ≠ "java/lang/invoke/VarHandle" ∧ (parseMethodDescriptor (yX11_readWrites).desc).map (fun d => d.parameters.length) = some 1 := by decide +kernel
theorem dX11_readBookLine_0 : decode cX11_readBookLine 0 = .ok (.aload_n 0, 1) := by decide +kernel
theorem dX11_readBookLine_1 : decode cX11_readBookLine 1 = .ok (.bipush 6, 2) := by decide +kernel
theorem dX11_readBookLine_3 : decode cX11_readBookLine 3 = .ok (.invokevirtual 186, 3) := by decide +kernel
theorem dX11_readBookLine_6 : decode cX11_readBookLine 6 = .ok (.ifCond .eq 7, 3) := by decide +kernel
theorem dX11_readBookLine_9 : decode cX11_readBookLine 9 = .ok (.iconst 1, 1) := by decide +kernel
theorem dX11_readBookLine_10 : decode cX11_readBookLine 10 = .ok (.goto 17, 3) := by decide +kernel
theorem dX11_readBookLine_13 : decode cX11_readBookLine 13 = .ok (.aload_n 0, 1) := by decide +kernel
theorem dX11_readBookLine_14 : decode cX11_readBookLine 14 = .ok (.bipush 7, 2) := by decide +kernel
theorem dX11_readBookLine_16 : decode cX11_readBookLine 16 = .ok (.invokevirtual 186, 3) := by decide +kernel
theorem dX11_readBookLine_19 : decode cX11_readBookLine 19 = .ok (.ifCond .eq 7, 3) := by decide +kernel
theorem dX11_readBookLine_22 : decode cX11_readBookLine 22 = .ok (.iconst 2, 1) := by decide +kernel
theorem dX11_readBookLine_23 : decode cX11_readBookLine 23 = .ok (.goto 4, 3) := by decide +kernel
theorem dX11_readBookLine_26 : decode cX11_readBookLine 26 = .ok (.iconst 0, 1) := by decide +kernel
theorem dX11_readBookLine_27 : decode cX11_readBookLine 27 = .ok (.istore_n 1, 1) := by decide +kernel
theorem dX11_readBookLine_28 : decode cX11_readBookLine 28 = .ok (.iload_n 1, 1) := by decide +kernel
theorem dX11_readBookLine_29 : decode cX11_readBookLine 29 = .ok (.ifCond .ne 45, 3) := by decide +kernel
theorem dX11_readBookLine_32 : decode cX11_readBookLine 32 = .ok (.aload_n 0, 1) := by decide +kernel
theorem dX11_readBookLine_33 : decode cX11_readBookLine 33 = .ok (.invokevirtual 161, 3) := by decide +kernel
theorem dX11_readBookLine_36 : decode cX11_readBookLine 36 = .ok (.ifCond .ne 9, 3) := by decide +kernel
theorem dX11_readBookLine_39 : decode cX11_readBookLine 39 = .ok (.aload_n 0, 1) := by decide +kernel
theorem dX11_readBookLine_40 : decode cX11_readBookLine 40 = .ok (.iconst 1, 1) := by decide +kernel
theorem dX11_readBookLine_41 : decode cX11_readBookLine 41 = .ok (.invokevirtual 72, 3) := by decide +kernel
theorem dX11_readBookLine_44 : decode cX11_readBookLine 44 = .ok (.ireturn, 1) := by decide +kernel
theorem dX11_readBookLine_45 : decode cX11_readBookLine 45 = .ok (.aload_n 0, 1) := by decide +kernel
theorem dX11_readBookLine_46 : decode cX11_readBookLine 46 = .ok (.getfield 113, 3) := by decide +kernel
theorem dX11_readBookLine_49 : decode cX11_readBookLine 49 = .ok (.bipush 6, 2) := by decide +kernel
theorem dX11_readBookLine_51 : decode cX11_readBookLine 51 = .ok (.aload_n 0, 1) := by decide +kernel
theorem dX11_readBookLine_52 : decode cX11_readBookLine 52 = .ok (.getfield 98, 3) := by decide +kernel
theorem dX11_readBookLine_55 : decode cX11_readBookLine 55 = .ok (.iconst 1, 1) := by decide +kernel
theorem dX11_readBookLine_56 : decode cX11_readBookLine 56 = .ok (.iaload, 1) := by decide +kernel
theorem dX11_readBookLine_57 : decode cX11_readBookLine 57 = .ok (.aload_n 0, 1) := by decide +kernel
theorem dX11_readBookLine_58 : decode cX11_readBookLine 58 = .ok (.getfield 43, 3) := by decide +kernel
theorem dX11_readBookLine_61 : decode cX11_readBookLine 61 = .ok (.invokestatic 157, 3) := by decide +kernel
theorem dX11_readBookLine_64 : decode cX11_readBookLine 64 = .ok (.iconst (-1), 1) := by decide +kernel
theorem dX11_readBookLine_65 : decode cX11_readBookLine 65 = .ok (.if_icmp .ne 9, 3) := by decide +kernel
theorem dX11_readBookLine_68 : decode cX11_readBookLine 68 = .ok (.aload_n 0, 1) := by decide +kernel
theorem dX11_readBookLine_69 : decode cX11_readBookLine 69 = .ok (.iconst 3, 1) := by decide +kernel
theorem dX11_readBookLine_70 : decode cX11_readBookLine 70 = .ok (.invokevirtual 72, 3) := by decide +kernel
theorem dX11_readBookLine_73 : decode cX11_readBookLine 73 = .ok (.ireturn, 1) := by decide +kernel
theorem dX11_readBookLine_74 : decode cX11_readBookLine 74 = .ok (.aload_n 0, 1) := by decide +kernel
theorem dX11_readBookLine_75 : decode cX11_readBookLine 75 = .ok (.getfield 377, 3) := by decide +kernel
theorem dX11_readBookLine_78 : decode cX11_readBookLine 78 = .ok (.bipush 40, 2) := by decide +kernel
theorem dX11_readBookLine_80 : decode cX11_readBookLine 80 = .ok (.if_icmp .ne 9, 3) := by decide +kernel
theorem dX11_readBookLine_83 : decode cX11_readBookLine 83 = .ok (.aload_n 0, 1) := by decide +kernel
theorem dX11_readBookLine_84 : decode cX11_readBookLine 84 = .ok (.iconst 4, 1) := by decide +kernel
theorem dX11_readBookLine_85 : decode cX11_readBookLine 85 = .ok (.invokevirtual 72, 3) := by decide +kernel
theorem dX11_readBookLine_88 : decode cX11_readBookLine 88 = .ok (.ireturn, 1) := by decide +kernel
theorem dX11_readBookLine_89 : decode cX11_readBookLine 89 = .ok (.iconst 5, 1) := by decide +kernel
theorem dX11_readBookLine_90 : decode cX11_readBookLine 90 = .ok (.aload_n 0, 1) := by decide +kernel
theorem dX11_readBookLine_91 : decode cX11_readBookLine 91 = .ok (.getfield 377, 3) := by decide +kernel
theorem dX11_readBookLine_94 : decode cX11_readBookLine 94 = .ok (.imul, 1) := by decide +kernel
theorem dX11_readBookLine_95 : decode cX11_readBookLine 95 = .ok (.istore_n 2, 1) := by decide +kernel
theorem dX11_readBookLine_96 : decode cX11_readBookLine 96 = .ok (.aload_n 0, 1) := by decide +kernel
theorem dX11_readBookLine_97 : decode cX11_readBookLine 97 = .ok (.getfield 145, 3) := by decide +kernel
theorem dX11_readBookLine_100 : decode cX11_readBookLine 100 = .ok (.iload_n 2, 1) := by decide +kernel
theorem dX11_readBookLine_101 : decode cX11_readBookLine 101 = .ok (.iload_n 1, 1) := by decide +kernel
theorem dX11_readBookLine_102 : decode cX11_readBookLine 102 = .ok (.iastore, 1) := by decide +kernel
theorem dX11_readBookLine_103 : decode cX11_readBookLine 103 = .ok (.aload_n 0, 1) := by decide +kernel
theorem dX11_readBookLine_104 : decode cX11_readBookLine 104 = .ok (.getfield 145, 3) := by decide +kernel
theorem dX11_readBookLine_107 : decode cX11_readBookLine 107 = .ok (.iload_n 2, 1) := by decide +kernel
theorem dX11_readBookLine_108 : decode cX11_readBookLine 108 = .ok (.iconst 1, 1) := by decide +kernel
theorem dX11_readBookLine_109 : decode cX11_readBookLine 109 = .ok (.iadd, 1) := by decide +kernel
theorem dX11_readBookLine_110 : decode cX11_readBookLine 110 = .ok (.iload_n 1, 1) := by decide +kernel
theorem dX11_readBookLine_111 : decode cX11_readBookLine 111 = .ok (.ifCond .ne 25, 3) := by decide +kernel
theorem dX11_readBookLine_114 : decode cX11_readBookLine 114 = .ok (.aload_n 0, 1) := by decide +kernel
theorem dX11_readBookLine_115 : decode cX11_readBookLine 115 = .ok (.getfield 113, 3) := by decide +kernel
theorem dX11_readBookLine_118 : decode cX11_readBookLine 118 = .ok (.bipush 6, 2) := by decide +kernel
theorem dX11_readBookLine_120 : decode cX11_readBookLine 120 = .ok (.aload_n 0, 1) := by decide +kernel
theorem dX11_readBookLine_121 : decode cX11_readBookLine 121 = .ok (.getfield 98, 3) := by decide +kernel
theorem dX11_readBookLine_124 : decode cX11_readBookLine 124 = .ok (.iconst 1, 1) := by decide +kernel
theorem dX11_readBookLine_125 : decode cX11_readBookLine 125 = .ok (.iaload, 1) := by decide +kernel
theorem dX11_readBookLine_126 : decode cX11_readBookLine 126 = .ok (.aload_n 0, 1) := by decide +kernel
theorem dX11_readBookLine_127 : decode cX11_readBookLine 127 = .ok (.getfield 43, 3) := by decide +kernel
theorem dX11_readBookLine_130 : decode cX11_readBookLine 130 = .ok (.invokestatic 157, 3) := by decide +kernel
theorem dX11_readBookLine_133 : decode cX11_readBookLine 133 = .ok (.goto 4, 3) := by decide +kernel
theorem dX11_readBookLine_136 : decode cX11_readBookLine 136 = .ok (.iconst 0, 1) := by decide +kernel
theorem dX11_readBookLine_137 : decode cX11_readBookLine 137 = .ok (.iastore, 1) := by decide +kernel
theorem dX11_readBookLine_138 : decode cX11_readBookLine 138 = .ok (.iconst 2, 1) := by decide +kernel
theorem dX11_readBookLine_139 : decode cX11_readBookLine 139 = .ok (.istore_n 3, 1) := by decide +kernel
theorem dX11_readBookLine_140 : decode cX11_readBookLine 140 = .ok (.iload_n 3, 1) := by decide +kernel
theorem dX11_readBookLine_141 : decode cX11_readBookLine 141 = .ok (.iconst 5, 1) := by decide +kernel
theorem dX11_readBookLine_142 : decode cX11_readBookLine 142 = .ok (.if_icmp .ge 18, 3) := by decide +kernel
theorem dX11_readBookLine_145 : decode cX11_readBookLine 145 = .ok (.aload_n 0, 1) := by decide +kernel
theorem dX11_readBookLine_146 : decode cX11_readBookLine 146 = .ok (.getfield 145, 3) := by decide +kernel
theorem dX11_readBookLine_149 : decode cX11_readBookLine 149 = .ok (.iload_n 2, 1) := by decide +kernel
theorem dX11_readBookLine_150 : decode cX11_readBookLine 150 = .ok (.iload_n 3, 1) := by decide +kernel
theorem dX11_readBookLine_151 : decode cX11_readBookLine 151 = .ok (.iadd, 1) := by decide +kernel
theorem dX11_readBookLine_152 : decode cX11_readBookLine 152 = .ok (.iconst 0, 1) := by decide +kernel
theorem dX11_readBookLine_153 : decode cX11_readBookLine 153 = .ok (.iastore, 1) := by decide +kernel
theorem dX11_readBookLine_154 : decode cX11_readBookLine 154 = .ok (.iinc 3 1, 3) := by decide +kernel
theorem dX11_readBookLine_157 : decode cX11_readBookLine 157 = .ok (.goto (-17), 3) := by decide +kernel
theorem dX11_readBookLine_160 : decode cX11_readBookLine 160 = .ok (.aload_n 0, 1) := by decide +kernel
theorem dX11_readBookLine_161 : decode cX11_readBookLine 161 = .ok (.invokevirtual 82, 3) := by decide +kernel
theorem dX11_readBookLine_164 : decode cX11_readBookLine 164 = .ok (.iload_n 1, 1) := by decide +kernel
theorem dX11_readBookLine_165 : decode cX11_readBookLine 165 = .ok (.lookupswitch 69 #[(0, 27), (1, 48)], 27) := by decide +kernel
theorem dX11_readBookLine_192 : decode cX11_readBookLine 192 = .ok (.aload_n 0, 1) := by decide +kernel
theorem dX11_readBookLine_193 : decode cX11_readBookLine 193 = .ok (.iload_n 2, 1) := by decide +kernel
theorem dX11_readBookLine_194 : decode cX11_readBookLine 194 = .ok (.invokevirtual 380, 3) := by decide +kernel
theorem dX11_readBookLine_197 : decode cX11_readBookLine 197 = .ok (.ifCond .eq 14, 3) := by decide +kernel
theorem dX11_readBookLine_200 : decode cX11_readBookLine 200 = .ok (.aload_n 0, 1) := by decide +kernel
theorem dX11_readBookLine_201 : decode cX11_readBookLine 201 = .ok (.invokevirtual 210, 3) := by decide +kernel
theorem dX11_readBookLine_204 : decode cX11_readBookLine 204 = .ok (.ifCond .eq 7, 3) := by decide +kernel
theorem dX11_readBookLine_207 : decode cX11_readBookLine 207 = .ok (.iconst 1, 1) := by decide +kernel
theorem dX11_readBookLine_208 : decode cX11_readBookLine 208 = .ok (.goto 4, 3) := by decide +kernel
theorem dX11_readBookLine_211 : decode cX11_readBookLine 211 = .ok (.iconst 0, 1) := by decide +kernel
theorem dX11_readBookLine_212 : decode cX11_readBookLine 212 = .ok (.ireturn, 1) := by decide +kernel
theorem dX11_readBookLine_213 : decode cX11_readBookLine 213 = .ok (.aload_n 0, 1) := by decide +kernel
theorem dX11_readBookLine_214 : decode cX11_readBookLine 214 = .ok (.iload_n 2, 1) := by decide +kernel
theorem dX11_readBookLine_215 : decode cX11_readBookLine 215 = .ok (.invokevirtual 374, 3) := by decide +kernel
theorem dX11_readBookLine_218 : decode cX11_readBookLine 218 = .ok (.ifCond .eq 14, 3) := by decide +kernel
theorem dX11_readBookLine_221 : decode cX11_readBookLine 221 = .ok (.aload_n 0, 1) := by decide +kernel
theorem dX11_readBookLine_222 : decode cX11_readBookLine 222 = .ok (.invokevirtual 210, 3) := by decide +kernel
theorem dX11_readBookLine_225 : decode cX11_readBookLine 225 = .ok (.ifCond .eq 7, 3) := by decide +kernel
theorem dX11_readBookLine_228 : decode cX11_readBookLine 228 = .ok (.iconst 1, 1) := by decide +kernel
theorem dX11_readBookLine_229 : decode cX11_readBookLine 229 = .ok (.goto 4, 3) := by decide +kernel
theorem dX11_readBookLine_232 : decode cX11_readBookLine 232 = .ok (.iconst 0, 1) := by decide +kernel
theorem dX11_readBookLine_233 : decode cX11_readBookLine 233 = .ok (.ireturn, 1) := by decide +kernel
theorem dX11_readBookLine_234 : decode cX11_readBookLine 234 = .ok (.aload_n 0, 1) := by decide +kernel
theorem dX11_readBookLine_235 : decode cX11_readBookLine 235 = .ok (.iload_n 2, 1) := by decide +kernel
theorem dX11_readBookLine_236 : decode cX11_readBookLine 236 = .ok (.iconst 1, 1) := by decide +kernel
theorem dX11_readBookLine_237 : decode cX11_readBookLine 237 = .ok (.iadd, 1) := by decide +kernel
theorem dX11_readBookLine_238 : decode cX11_readBookLine 238 = .ok (.aload_n 0, 1) := by decide +kernel
theorem dX11_readBookLine_239 : decode cX11_readBookLine 239 = .ok (.iconst 1, 1) := by decide +kernel
theorem dX11_readBookLine_240 : decode cX11_readBookLine 240 = .ok (.bipush 60, 2) := by decide +kernel
theorem dX11_readBookLine_242 : decode cX11_readBookLine 242 = .ok (.invokevirtual 175, 3) := by decide +kernel
theorem dX11_readBookLine_245 : decode cX11_readBookLine 245 = .ok (.invokevirtual 371, 3) := by decide +kernel
theorem dX11_readBookLine_248 : decode cX11_readBookLine 248 = .ok (.ifCond .eq 14, 3) := by decide +kernel
theorem dX11_readBookLine_251 : decode cX11_readBookLine 251 = .ok (.aload_n 0, 1) := by decide +kernel
theorem dX11_readBookLine_252 : decode cX11_readBookLine 252 = .ok (.invokevirtual 210, 3) := by decide +kernel
theorem dX11_readBookLine_255 : decode cX11_readBookLine 255 = .ok (.ifCond .eq 7, 3) := by decide +kernel
theorem dX11_readBookLine_258 : decode cX11_readBookLine 258 = .ok (.iconst 1, 1) := by decide +kernel
theorem dX11_readBookLine_259 : decode cX11_readBookLine 259 = .ok (.goto 4, 3) := by decide +kernel
theorem dX11_readBookLine_262 : decode cX11_readBookLine 262 = .ok (.iconst 0, 1) := by decide +kernel
theorem dX11_readBookLine_263 : decode cX11_readBookLine 263 = .ok (.ireturn, 1) := by decide +kernel
def fX11_readBookLine_L140 (N : Nat) (v0 : Nat) (v1 : Int32) (v2 : Int32) : Nat → Int32 → Mem → Option (Mem)
  | 0, _, _ => none
  | n + 1, v3, M => (if 5 ≤ v3 then some M else ((fR M 11 v0 36).bind fun x146 => ((tI M x146 (v2 + v3) 0).bind fun M153 => fX11_readBookLine_L140 N v0 v1 v2 n (v3 + 1) M153)))
def fX11_readBookLine_J137 (N : Nat) (v0 : Nat) (v1 : Int32) (v2 : Int32) (s0 : Int32) (s1 : Int32) (s2 : Nat) (M : Mem) : Option (Int32 × Mem) := ((tI M s2 s1 s0).bind fun M137 => ((fX11_readBookLine_L140 N v0 v1 v2 N 2 M137).bind fun o140 => (if mK o140 v0 = 12 then ((fX11_go N v0 o140).bind fun (u161, M161) => (if v1 = 0 then (if mK M161 v0 = 12 then ((fX11_readWrites N v0 v2 M161).bind fun (x194, M194) => (if x194 = 0 then some (0, M194) else (if mK M194 v0 = 12 then ((fX11_readEnd N v0 M194).bind fun (x201, M201) => (if x201 = 0 then some (0, M201) else some (1, M201))) else none))) else none) else (if v1 = 1 then (if mK M161 v0 = 12 then ((fX11_readWhere N v0 v2 M161).bind fun (x215, M215) => (if x215 = 0 then some (0, M215) else (if mK M215 v0 = 12 then ((fX11_readEnd N v0 M215).bind fun (x222, M222) => (if x222 = 0 then some (0, M222) else some (1, M222))) else none))) else none) else (if mK M161 v0 = 12 then ((fX11_readNumber N v0 1 60 M161).bind fun (x242, M242) => (if mK M242 v0 = 12 then ((fX11_keeps N v0 (v2 + 1) x242 M242).bind fun (x245, M245) => (if x245 = 0 then some (0, M245) else (if mK M245 v0 = 12 then ((fX11_readEnd N v0 M245).bind fun (x252, M252) => (if x252 = 0 then some (0, M252) else some (1, M252))) else none))) else none)) else none)))) else none)))
def fX11_readBookLine_J74 (N : Nat) (v0 : Nat) (v1 : Int32) (M : Mem) : Option (Int32 × Mem) := ((fI M 11 v0 38).bind fun x75 => (if x75 = 40 then (if mK M v0 = 12 then ((fX11_bad N v0 4 M).bind fun (x85, M85) => (if vp_nar .boolean x85 = x85 then some (x85, M85) else none)) else none) else ((fI M 11 v0 38).bind fun x91 => ((fR M 11 v0 36).bind fun x97 => ((tI M x97 (5 * x91) v1).bind fun M102 => ((fR M102 11 v0 36).bind fun x104 => (if v1 = 0 then ((fR M102 11 v0 19).bind fun x115 => ((fR M102 11 v0 14).bind fun x121 => ((aI M102 x121 1).bind fun x125 => ((fL M102 11 v0 12).bind fun x127 => ((fX11_findIn N x115 6 x125 x127 M102).bind fun (x130, M130) => fX11_readBookLine_J137 N v0 v1 (5 * x91) x130 ((5 * x91) + 1) x104 M130))))) else fX11_readBookLine_J137 N v0 v1 (5 * x91) 0 ((5 * x91) + 1) x104 M102)))))))
def fX11_readBookLine_J27 (N : Nat) (v0 : Nat) (s0 : Int32) (M : Mem) : Option (Int32 × Mem) := (if s0 = 0 then (if mK M v0 = 12 then ((fX11_isName N v0 M).bind fun (x33, M33) => (if x33 = 0 then (if mK M33 v0 = 12 then ((fX11_bad N v0 1 M33).bind fun (x41, M41) => (if vp_nar .boolean x41 = x41 then some (x41, M41) else none)) else none) else ((fR M33 11 v0 19).bind fun x46 => ((fR M33 11 v0 14).bind fun x52 => ((aI M33 x52 1).bind fun x56 => ((fL M33 11 v0 12).bind fun x58 => ((fX11_findIn N x46 6 x56 x58 M33).bind fun (x61, M61) => (if x61 = ((-1)) then (if mK M61 v0 = 12 then ((fX11_bad N v0 3 M61).bind fun (x70, M70) => (if vp_nar .boolean x70 = x70 then some (x70, M70) else none)) else none) else fX11_readBookLine_J74 N v0 s0 M61)))))))) else none) else fX11_readBookLine_J74 N v0 s0 M)
def fX11_readBookLine (N : Nat) (v0 : Nat) (M : Mem) : Option (Int32 × Mem) := (if mK M v0 = 12 then ((fX11_isWord N v0 6 M).bind fun (x3, M3) => (if x3 = 0 then (if mK M3 v0 = 12 then ((fX11_isWord N v0 7 M3).bind fun (x16, M16) => (if x16 = 0 then fX11_readBookLine_J27 N v0 0 M16 else fX11_readBookLine_J27 N v0 2 M16)) else none) else fX11_readBookLine_J27 N v0 1 M3)) else none)
set_option maxHeartbeats 4000000 in
set_option maxRecDepth 100000 in
theorem k_X11_readBookLine (l : Launch) (b : Nat) (D : va_G) (cy : Nat → ClassId) (N : Nat) (v0 : Nat) (M : Mem) (r : Int32) (Mf : Mem) (h : fX11_readBookLine N v0 M = some (r, Mf)) : Ct l yX11_readBookLine cX11_readBookLine 4 (some .boolean) 7 0 0 b D cy [.ref (b + v0)] M (some (.int r)) Mf := by
  refine Ct_of (own := RX11) (by decide) rfl (Nat.le_of_ble_eq_true rfl) ?_
  intro p e s m args below meth c F hr hl hmn
  unfold fX11_readBookLine at h
  have J137 : ∀ (v0 : Nat) (v1 : Int32) (v2 : Int32) (s0 : Int32) (s1 : Int32) (s2 : Nat) (M : Mem), fX11_readBookLine_J137 N v0 v1 v2 s0 s1 s2 M = some (r, Mf) → X p l e ({ frames := 7, cells := 0, slots := 0, locals := 100 * 7 }) s m args below meth c (MQ below (Qm b D cy (some (.int r)) Mf) args s 0 0 (fun q => b ≤ q)) 4 b D cy 0 0 M 137 [(0, .ref (b + v0)), (1, .int v1), (2, .int v2)] [.int s0, .int s1, .ref (b + s2)] := by
    intro v0 v1 v2 s0 s1 s2 M h
    unfold fX11_readBookLine_J137 at h
    obtain ⟨M137, c137, h⟩ := bdS h
    refine x_tI F c137 dX11_readBookLine_137 ?_
    refine x_iconst F (v := 2) dX11_readBookLine_138 (by decide) ?_
    refine x_istore_n F (lv' := [(3, .int 2), (0, .ref (b + v0)), (1, .int v1), (2, .int v2)]) dX11_readBookLine_139 rfl (by decide) rfl ?_
    have L140 : ∀ (v0 : Nat) (v1 : Int32) (v2 : Int32) (n : Nat) (v3 : Int32) (M : Mem) (o : Mem), fX11_readBookLine_L140 N v0 v1 v2 n v3 M = some o → X p l e ({ frames := 7, cells := 0, slots := 0, locals := 100 * 7 }) s m args below meth c (MQ below (Qm b D cy (some (.int r)) Mf) args s 0 0 (fun q => b ≤ q)) 4 b D cy 0 0 o 160 [(0, .ref (b + v0)), (1, .int v1), (2, .int v2)] [] → X p l e ({ frames := 7, cells := 0, slots := 0, locals := 100 * 7 }) s m args below meth c (MQ below (Qm b D cy (some (.int r)) Mf) args s 0 0 (fun q => b ≤ q)) 4 b D cy 0 0 M 140 [(0, .ref (b + v0)), (1, .int v1), (2, .int v2), (3, .int v3)] [] := by
      intro v0 v1 v2 n
      induction n with
      | zero => intro v3 M o h; exact absurd h (by rw [fX11_readBookLine_L140]; exact fun z => by cases z)
      | succ n ih =>
        intro v3 M o h hE
        rw [fX11_readBookLine_L140] at h
        refine x_iload_n F dX11_readBookLine_140 rfl 3 rfl ?_
        refine x_iconst F (v := 5) dX11_readBookLine_141 (by decide) ?_
        refine x_icmp_ge F (tgt := 160) dX11_readBookLine_142 (by decide) (fun c142 => ?_) (fun c142 => ?_)
        · rw [if_pos c142] at h
          obtain rfl := Option.some.inj h
          refine x_sub [0, 1, 2] rfl ?_
          exact hE
        · rw [if_neg c142] at h
          refine x_aload_n F dX11_readBookLine_145 rfl 0 rfl ?_
          obtain ⟨x146, c146, h⟩ := bdS h
          refine x_getR F (ci := 11) (C := RX11) (T := TX11) (N := 45) rfl ⟨by decide, rfl⟩ inU11 36 (by decide) (fun _ _ _ => rfl) wl_929 c146 dX11_readBookLine_146 ?_
          refine x_iload_n F dX11_readBookLine_149 rfl 2 rfl ?_
          refine x_iload_n F dX11_readBookLine_150 rfl 3 rfl ?_
          refine x_iadd F dX11_readBookLine_151 ?_
          refine x_iconst F (v := 0) dX11_readBookLine_152 (by decide) ?_
          obtain ⟨M153, c153, h⟩ := bdS h
          refine x_tI F c153 dX11_readBookLine_153 ?_
          refine x_iinc F (v := v3 + 1) (lv' := [(3, .int (v3 + 1)), (0, .ref (b + v0)), (1, .int v1), (2, .int v2)]) dX11_readBookLine_154 3 rfl rfl (by decide) rfl ?_
          refine x_goto F (tgt := 140) dX11_readBookLine_157 (by decide) ?_
          refine x_sub [1, 2, 3, 0] rfl ?_
          exact ih (v3 + 1) M153 o h hE
    obtain ⟨o140, h140, h⟩ := bdS h
    refine x_sub [1, 2, 3, 0] rfl ?_
    refine L140 v0 v1 v2 N 2 M137 o140 h140 ?_
    refine x_aload_n F dX11_readBookLine_160 rfl 0 rfl ?_
    obtain ⟨k161, h⟩ := gdS h
    obtain ⟨⟨u161, M161⟩, c161, h⟩ := bdS h
    dsimp only at h
    refine x_callV F (As := []) (rest := []) (res := none) (ci := 11) (q := (RX11, TX11, 45)) rfl (by decide) k161 (k_X11_go l b D cy N v0 o140 _ _ c161) wl_900 wl_901 wl_902 wl_854 wl_865 hd_X11_go ⟨Nat.le_of_ble_eq_true rfl, Nat.le_of_ble_eq_true rfl⟩ ⟨Nat.le_refl _, Nat.le_refl _⟩ (Nat.le_of_ble_eq_true rfl) rfl dX11_readBookLine_161 ?_
    refine x_iload_n F dX11_readBookLine_164 rfl 1 rfl ?_
    by_cases c165_0 : v1 = 0
    · rw [if_pos c165_0] at h
      refine x_lookup F (off := 27) (tgt := 192) dX11_readBookLine_165 (by decide) (by rw [c165_0]; decide) (by decide) ?_
      refine x_aload_n F dX11_readBookLine_192 rfl 0 rfl ?_
      refine x_iload_n F dX11_readBookLine_193 rfl 2 rfl ?_
      obtain ⟨k194, h⟩ := gdS h
      obtain ⟨⟨x194, M194⟩, c194, h⟩ := bdS h
      dsimp only at h
      refine x_callV F (As := [.int v2]) (rest := []) (res := (some (.int x194))) (ci := 11) (q := (RX11, TX11, 45)) rfl (by decide) k194 (k_X11_readWrites l b D cy N v0 v2 M161 _ _ c194) wl_1207 wl_1208 wl_1209 wl_854 wl_1205 hd_X11_readWrites ⟨Nat.le_of_ble_eq_true rfl, Nat.le_of_ble_eq_true rfl⟩ ⟨Nat.le_refl _, Nat.le_refl _⟩ (Nat.le_of_ble_eq_true rfl) rfl dX11_readBookLine_194 ?_
      refine x_if_eq F (tgt := 211) dX11_readBookLine_197 (by decide) (fun c197 => ?_) (fun c197 => ?_)
      · rw [if_pos c197] at h
        refine x_iconst F (v := 0) dX11_readBookLine_211 (by decide) ?_
        obtain ⟨rfl, rfl⟩ := retS h
        exact x_zret F hr hl (by decide) dX11_readBookLine_212
      · rw [if_neg c197] at h
        refine x_aload_n F dX11_readBookLine_200 rfl 0 rfl ?_
        obtain ⟨k201, h⟩ := gdS h
        obtain ⟨⟨x201, M201⟩, c201, h⟩ := bdS h
        dsimp only at h
        refine x_callV F (As := []) (rest := []) (res := (some (.int x201))) (ci := 11) (q := (RX11, TX11, 45)) rfl (by decide) k201 (k_X11_readEnd l b D cy N v0 M194 _ _ c201) wl_993 wl_994 wl_995 wl_854 wl_907 hd_X11_readEnd ⟨Nat.le_of_ble_eq_true rfl, Nat.le_of_ble_eq_true rfl⟩ ⟨Nat.le_refl _, Nat.le_refl _⟩ (Nat.le_of_ble_eq_true rfl) rfl dX11_readBookLine_201 ?_
        refine x_if_eq F (tgt := 211) dX11_readBookLine_204 (by decide) (fun c204 => ?_) (fun c204 => ?_)
        · rw [if_pos c204] at h
          refine x_iconst F (v := 0) dX11_readBookLine_211 (by decide) ?_
          obtain ⟨rfl, rfl⟩ := retS h
          exact x_zret F hr hl (by decide) dX11_readBookLine_212
        · rw [if_neg c204] at h
          refine x_iconst F (v := 1) dX11_readBookLine_207 (by decide) ?_
          refine x_goto F (tgt := 212) dX11_readBookLine_208 (by decide) ?_
          obtain ⟨rfl, rfl⟩ := retS h
          exact x_zret F hr hl (by decide) dX11_readBookLine_212
    rw [if_neg c165_0] at h
    by_cases c165_1 : v1 = 1
    · rw [if_pos c165_1] at h
      refine x_lookup F (off := 48) (tgt := 213) dX11_readBookLine_165 (by decide) (by rw [c165_1]; decide) (by decide) ?_
      refine x_aload_n F dX11_readBookLine_213 rfl 0 rfl ?_
      refine x_iload_n F dX11_readBookLine_214 rfl 2 rfl ?_
      obtain ⟨k215, h⟩ := gdS h
      obtain ⟨⟨x215, M215⟩, c215, h⟩ := bdS h
      dsimp only at h
      refine x_callV F (As := [.int v2]) (rest := []) (res := (some (.int x215))) (ci := 11) (q := (RX11, TX11, 45)) rfl (by decide) k215 (k_X11_readWhere l b D cy N v0 v2 M161 _ _ c215) wl_1202 wl_1203 wl_1204 wl_854 wl_1201 hd_X11_readWhere ⟨Nat.le_of_ble_eq_true rfl, Nat.le_of_ble_eq_true rfl⟩ ⟨Nat.le_refl _, Nat.le_refl _⟩ (Nat.le_of_ble_eq_true rfl) rfl dX11_readBookLine_215 ?_
      refine x_if_eq F (tgt := 232) dX11_readBookLine_218 (by decide) (fun c218 => ?_) (fun c218 => ?_)
      · rw [if_pos c218] at h
        refine x_iconst F (v := 0) dX11_readBookLine_232 (by decide) ?_
        obtain ⟨rfl, rfl⟩ := retS h
        exact x_zret F hr hl (by decide) dX11_readBookLine_233
      · rw [if_neg c218] at h
        refine x_aload_n F dX11_readBookLine_221 rfl 0 rfl ?_
        obtain ⟨k222, h⟩ := gdS h
        obtain ⟨⟨x222, M222⟩, c222, h⟩ := bdS h
        dsimp only at h
        refine x_callV F (As := []) (rest := []) (res := (some (.int x222))) (ci := 11) (q := (RX11, TX11, 45)) rfl (by decide) k222 (k_X11_readEnd l b D cy N v0 M215 _ _ c222) wl_993 wl_994 wl_995 wl_854 wl_907 hd_X11_readEnd ⟨Nat.le_of_ble_eq_true rfl, Nat.le_of_ble_eq_true rfl⟩ ⟨Nat.le_refl _, Nat.le_refl _⟩ (Nat.le_of_ble_eq_true rfl) rfl dX11_readBookLine_222 ?_
        refine x_if_eq F (tgt := 232) dX11_readBookLine_225 (by decide) (fun c225 => ?_) (fun c225 => ?_)
        · rw [if_pos c225] at h
          refine x_iconst F (v := 0) dX11_readBookLine_232 (by decide) ?_
          obtain ⟨rfl, rfl⟩ := retS h
          exact x_zret F hr hl (by decide) dX11_readBookLine_233
        · rw [if_neg c225] at h
          refine x_iconst F (v := 1) dX11_readBookLine_228 (by decide) ?_
          refine x_goto F (tgt := 233) dX11_readBookLine_229 (by decide) ?_
          obtain ⟨rfl, rfl⟩ := retS h
          exact x_zret F hr hl (by decide) dX11_readBookLine_233
    rw [if_neg c165_1] at h
    refine x_lookup F (off := 69) (tgt := 234) dX11_readBookLine_165 (by decide) (by rw [lv_osw c165_0 (by decide), lv_osw c165_1 (by decide)]; rfl) (by decide) ?_
    refine x_aload_n F dX11_readBookLine_234 rfl 0 rfl ?_
    refine x_iload_n F dX11_readBookLine_235 rfl 2 rfl ?_
    refine x_iconst F (v := 1) dX11_readBookLine_236 (by decide) ?_
    refine x_iadd F dX11_readBookLine_237 ?_
    refine x_aload_n F dX11_readBookLine_238 rfl 0 rfl ?_
    refine x_iconst F (v := 1) dX11_readBookLine_239 (by decide) ?_
    refine x_bipush F (v := 60) dX11_readBookLine_240 (by decide) ?_
    obtain ⟨k242, h⟩ := gdS h
    obtain ⟨⟨x242, M242⟩, c242, h⟩ := bdS h
    dsimp only at h
    refine x_callV F (As := [.int 1, .int 60]) (rest := [.int (v2 + 1), .ref (b + v0)]) (res := (some (.int x242))) (ci := 11) (q := (RX11, TX11, 45)) rfl (by decide) k242 (k_X11_readNumber l b D cy N v0 1 60 M161 _ _ c242) wl_955 wl_956 wl_957 wl_854 wl_903 hd_X11_readNumber ⟨Nat.le_of_ble_eq_true rfl, Nat.le_of_ble_eq_true rfl⟩ ⟨Nat.le_refl _, Nat.le_refl _⟩ (Nat.le_of_ble_eq_true rfl) rfl dX11_readBookLine_242 ?_
    obtain ⟨k245, h⟩ := gdS h
    obtain ⟨⟨x245, M245⟩, c245, h⟩ := bdS h
    dsimp only at h
    refine x_callV F (As := [.int (v2 + 1), .int x242]) (rest := []) (res := (some (.int x245))) (ci := 11) (q := (RX11, TX11, 45)) rfl (by decide) k245 (k_X11_keeps l b D cy N v0 (v2 + 1) x242 M242 _ _ c245) wl_1198 wl_1199 wl_1200 wl_854 wl_1193 hd_X11_keeps ⟨Nat.le_of_ble_eq_true rfl, Nat.le_of_ble_eq_true rfl⟩ ⟨Nat.le_refl _, Nat.le_refl _⟩ (Nat.le_of_ble_eq_true rfl) rfl dX11_readBookLine_245 ?_
    refine x_if_eq F (tgt := 262) dX11_readBookLine_248 (by decide) (fun c248 => ?_) (fun c248 => ?_)
    · rw [if_pos c248] at h
      refine x_iconst F (v := 0) dX11_readBookLine_262 (by decide) ?_
      obtain ⟨rfl, rfl⟩ := retS h
      exact x_zret F hr hl (by decide) dX11_readBookLine_263
    · rw [if_neg c248] at h
      refine x_aload_n F dX11_readBookLine_251 rfl 0 rfl ?_
      obtain ⟨k252, h⟩ := gdS h
      obtain ⟨⟨x252, M252⟩, c252, h⟩ := bdS h
      dsimp only at h
      refine x_callV F (As := []) (rest := []) (res := (some (.int x252))) (ci := 11) (q := (RX11, TX11, 45)) rfl (by decide) k252 (k_X11_readEnd l b D cy N v0 M245 _ _ c252) wl_993 wl_994 wl_995 wl_854 wl_907 hd_X11_readEnd ⟨Nat.le_of_ble_eq_true rfl, Nat.le_of_ble_eq_true rfl⟩ ⟨Nat.le_refl _, Nat.le_refl _⟩ (Nat.le_of_ble_eq_true rfl) rfl dX11_readBookLine_252 ?_
      refine x_if_eq F (tgt := 262) dX11_readBookLine_255 (by decide) (fun c255 => ?_) (fun c255 => ?_)
      · rw [if_pos c255] at h
        refine x_iconst F (v := 0) dX11_readBookLine_262 (by decide) ?_
        obtain ⟨rfl, rfl⟩ := retS h
        exact x_zret F hr hl (by decide) dX11_readBookLine_263
      · rw [if_neg c255] at h
        refine x_iconst F (v := 1) dX11_readBookLine_258 (by decide) ?_
        refine x_goto F (tgt := 263) dX11_readBookLine_259 (by decide) ?_
        obtain ⟨rfl, rfl⟩ := retS h
        exact x_zret F hr hl (by decide) dX11_readBookLine_263
  have J74 : ∀ (v0 : Nat) (v1 : Int32) (M : Mem), fX11_readBookLine_J74 N v0 v1 M = some (r, Mf) → X p l e ({ frames := 7, cells := 0, slots := 0, locals := 100 * 7 }) s m args below meth c (MQ below (Qm b D cy (some (.int r)) Mf) args s 0 0 (fun q => b ≤ q)) 4 b D cy 0 0 M 74 [(0, .ref (b + v0)), (1, .int v1)] [] := by
    intro v0 v1 M h
    unfold fX11_readBookLine_J74 at h
    refine x_aload_n F dX11_readBookLine_74 rfl 0 rfl ?_
    obtain ⟨x75, c75, h⟩ := bdS h
    refine x_getI F (ci := 11) (C := RX11) (T := TX11) (N := 45) rfl ⟨by decide, rfl⟩ inU11 38 (by decide) (fun _ _ _ => rfl) wl_1206 c75 dX11_readBookLine_75 ?_
    refine x_bipush F (v := 40) dX11_readBookLine_78 (by decide) ?_
    refine x_icmp_ne F (tgt := 89) dX11_readBookLine_80 (by decide) (fun c80 => ?_) (fun c80 => ?_)
    · rw [if_neg c80] at h
      refine x_iconst F (v := 5) dX11_readBookLine_89 (by decide) ?_
      refine x_aload_n F dX11_readBookLine_90 rfl 0 rfl ?_
      obtain ⟨x91, c91, h⟩ := bdS h
      refine x_getI F (ci := 11) (C := RX11) (T := TX11) (N := 45) rfl ⟨by decide, rfl⟩ inU11 38 (by decide) (fun _ _ _ => rfl) wl_1206 c91 dX11_readBookLine_91 ?_
      refine x_imul F dX11_readBookLine_94 ?_
      refine x_istore_n F (lv' := [(2, .int (5 * x91)), (0, .ref (b + v0)), (1, .int v1)]) dX11_readBookLine_95 rfl (by decide) rfl ?_
      refine x_aload_n F dX11_readBookLine_96 rfl 1 rfl ?_
      obtain ⟨x97, c97, h⟩ := bdS h
      refine x_getR F (ci := 11) (C := RX11) (T := TX11) (N := 45) rfl ⟨by decide, rfl⟩ inU11 36 (by decide) (fun _ _ _ => rfl) wl_929 c97 dX11_readBookLine_97 ?_
      refine x_iload_n F dX11_readBookLine_100 rfl 0 rfl ?_
      refine x_iload_n F dX11_readBookLine_101 rfl 2 rfl ?_
      obtain ⟨M102, c102, h⟩ := bdS h
      refine x_tI F c102 dX11_readBookLine_102 ?_
      refine x_aload_n F dX11_readBookLine_103 rfl 1 rfl ?_
      obtain ⟨x104, c104, h⟩ := bdS h
      refine x_getR F (ci := 11) (C := RX11) (T := TX11) (N := 45) rfl ⟨by decide, rfl⟩ inU11 36 (by decide) (fun _ _ _ => rfl) wl_929 c104 dX11_readBookLine_104 ?_
      refine x_iload_n F dX11_readBookLine_107 rfl 0 rfl ?_
      refine x_iconst F (v := 1) dX11_readBookLine_108 (by decide) ?_
      refine x_iadd F dX11_readBookLine_109 ?_
      refine x_iload_n F dX11_readBookLine_110 rfl 2 rfl ?_
      refine x_if_ne F (tgt := 136) dX11_readBookLine_111 (by decide) (fun c111 => ?_) (fun c111 => ?_)
      · rw [if_neg c111] at h
        refine x_iconst F (v := 0) dX11_readBookLine_136 (by decide) ?_
        refine x_sub [1, 2, 0] rfl ?_
        exact J137 v0 v1 (5 * x91) 0 ((5 * x91) + 1) x104 M102 h
      · rw [if_pos c111] at h
        refine x_aload_n F dX11_readBookLine_114 rfl 1 rfl ?_
        obtain ⟨x115, c115, h⟩ := bdS h
        refine x_getR F (ci := 11) (C := RX11) (T := TX11) (N := 45) rfl ⟨by decide, rfl⟩ inU11 19 (by decide) (fun _ _ _ => rfl) wl_919 c115 dX11_readBookLine_115 ?_
        refine x_bipush F (v := 6) dX11_readBookLine_118 (by decide) ?_
        refine x_aload_n F dX11_readBookLine_120 rfl 1 rfl ?_
        obtain ⟨x121, c121, h⟩ := bdS h
        refine x_getR F (ci := 11) (C := RX11) (T := TX11) (N := 45) rfl ⟨by decide, rfl⟩ inU11 14 (by decide) (fun _ _ _ => rfl) wl_913 c121 dX11_readBookLine_121 ?_
        refine x_iconst F (v := 1) dX11_readBookLine_124 (by decide) ?_
        obtain ⟨x125, c125, h⟩ := bdS h
        refine x_aI F c125 dX11_readBookLine_125 ?_
        refine x_aload_n F dX11_readBookLine_126 rfl 1 rfl ?_
        obtain ⟨x127, c127, h⟩ := bdS h
        refine x_getL F (ci := 11) (C := RX11) (T := TX11) (N := 45) rfl ⟨by decide, rfl⟩ inU11 12 (by decide) (fun _ _ _ => rfl) wl_871 c127 dX11_readBookLine_127 ?_
        obtain ⟨⟨x130, M130⟩, c130, h⟩ := bdS h
        dsimp only at h
        refine x_callS F (As := [.ref (b + x115), .int 6, .int x125, .long x127]) (rest := [.int ((5 * x91) + 1), .ref (b + x104)]) (res := (some (.int x130))) (k_X11_findIn l b D cy N x115 6 x125 x127 M102 _ _ c130) wl_938 wl_939 wl_854 wl_936 (hd_X11_findIn).2 ⟨Nat.le_of_ble_eq_true rfl, Nat.le_of_ble_eq_true rfl⟩ ⟨Nat.le_refl _, Nat.le_refl _⟩ (Nat.le_of_ble_eq_true rfl) rfl dX11_readBookLine_130 ?_
        refine x_goto F (tgt := 137) dX11_readBookLine_133 (by decide) ?_
        refine x_sub [1, 2, 0] rfl ?_
        exact J137 v0 v1 (5 * x91) x130 ((5 * x91) + 1) x104 M130 h
    · rw [if_pos c80] at h
      refine x_aload_n F dX11_readBookLine_83 rfl 0 rfl ?_
      refine x_iconst F (v := 4) dX11_readBookLine_84 (by decide) ?_
      obtain ⟨k85, h⟩ := gdS h
      obtain ⟨⟨x85, M85⟩, c85, h⟩ := bdS h
      dsimp only at h
      refine x_callV F (As := [.int 4]) (rest := []) (res := (some (.int x85))) (ci := 11) (q := (RX11, TX11, 45)) rfl (by decide) k85 (k_X11_bad l b D cy N v0 4 M _ _ c85) wl_895 wl_896 wl_897 wl_854 wl_891 hd_X11_bad ⟨Nat.le_of_ble_eq_true rfl, Nat.le_of_ble_eq_true rfl⟩ ⟨Nat.le_refl _, Nat.le_refl _⟩ (Nat.le_of_ble_eq_true rfl) rfl dX11_readBookLine_85 ?_
      obtain ⟨c88, h⟩ := gdS h
      obtain ⟨rfl, rfl⟩ := retS h
      exact x_zret F hr hl c88 dX11_readBookLine_88
  have J27 : ∀ (v0 : Nat) (s0 : Int32) (M : Mem), fX11_readBookLine_J27 N v0 s0 M = some (r, Mf) → X p l e ({ frames := 7, cells := 0, slots := 0, locals := 100 * 7 }) s m args below meth c (MQ below (Qm b D cy (some (.int r)) Mf) args s 0 0 (fun q => b ≤ q)) 4 b D cy 0 0 M 27 [(0, .ref (b + v0))] [.int s0] := by
    intro v0 s0 M h
    unfold fX11_readBookLine_J27 at h
    refine x_istore_n F (lv' := [(1, .int s0), (0, .ref (b + v0))]) dX11_readBookLine_27 rfl (by decide) rfl ?_
    refine x_iload_n F dX11_readBookLine_28 rfl 0 rfl ?_
    refine x_if_ne F (tgt := 74) dX11_readBookLine_29 (by decide) (fun c29 => ?_) (fun c29 => ?_)
    · rw [if_neg c29] at h
      refine x_sub [1, 0] rfl ?_
      exact J74 v0 s0 M h
    · rw [if_pos c29] at h
      refine x_aload_n F dX11_readBookLine_32 rfl 1 rfl ?_
      obtain ⟨k33, h⟩ := gdS h
      obtain ⟨⟨x33, M33⟩, c33, h⟩ := bdS h
      dsimp only at h
      refine x_callV F (As := []) (rest := []) (res := (some (.int x33))) (ci := 11) (q := (RX11, TX11, 45)) rfl (by decide) k33 (k_X11_isName l b D cy N v0 M _ _ c33) wl_940 wl_941 wl_942 wl_854 wl_890 hd_X11_isName ⟨Nat.le_of_ble_eq_true rfl, Nat.le_of_ble_eq_true rfl⟩ ⟨Nat.le_refl _, Nat.le_refl _⟩ (Nat.le_of_ble_eq_true rfl) rfl dX11_readBookLine_33 ?_
      refine x_if_ne F (tgt := 45) dX11_readBookLine_36 (by decide) (fun c36 => ?_) (fun c36 => ?_)
      · rw [if_neg c36] at h
        refine x_aload_n F dX11_readBookLine_45 rfl 1 rfl ?_
        obtain ⟨x46, c46, h⟩ := bdS h
        refine x_getR F (ci := 11) (C := RX11) (T := TX11) (N := 45) rfl ⟨by decide, rfl⟩ inU11 19 (by decide) (fun _ _ _ => rfl) wl_919 c46 dX11_readBookLine_46 ?_
        refine x_bipush F (v := 6) dX11_readBookLine_49 (by decide) ?_
        refine x_aload_n F dX11_readBookLine_51 rfl 1 rfl ?_
        obtain ⟨x52, c52, h⟩ := bdS h
        refine x_getR F (ci := 11) (C := RX11) (T := TX11) (N := 45) rfl ⟨by decide, rfl⟩ inU11 14 (by decide) (fun _ _ _ => rfl) wl_913 c52 dX11_readBookLine_52 ?_
        refine x_iconst F (v := 1) dX11_readBookLine_55 (by decide) ?_
        obtain ⟨x56, c56, h⟩ := bdS h
        refine x_aI F c56 dX11_readBookLine_56 ?_
        refine x_aload_n F dX11_readBookLine_57 rfl 1 rfl ?_
        obtain ⟨x58, c58, h⟩ := bdS h
        refine x_getL F (ci := 11) (C := RX11) (T := TX11) (N := 45) rfl ⟨by decide, rfl⟩ inU11 12 (by decide) (fun _ _ _ => rfl) wl_871 c58 dX11_readBookLine_58 ?_
        obtain ⟨⟨x61, M61⟩, c61, h⟩ := bdS h
        dsimp only at h
        refine x_callS F (As := [.ref (b + x46), .int 6, .int x56, .long x58]) (rest := []) (res := (some (.int x61))) (k_X11_findIn l b D cy N x46 6 x56 x58 M33 _ _ c61) wl_938 wl_939 wl_854 wl_936 (hd_X11_findIn).2 ⟨Nat.le_of_ble_eq_true rfl, Nat.le_of_ble_eq_true rfl⟩ ⟨Nat.le_refl _, Nat.le_refl _⟩ (Nat.le_of_ble_eq_true rfl) rfl dX11_readBookLine_61 ?_
        refine x_iconst F (v := (-1)) dX11_readBookLine_64 (by decide) ?_
        refine x_icmp_ne F (tgt := 74) dX11_readBookLine_65 (by decide) (fun c65 => ?_) (fun c65 => ?_)
        · rw [if_neg c65] at h
          refine x_sub [1, 0] rfl ?_
          exact J74 v0 s0 M61 h
        · rw [if_pos c65] at h
          refine x_aload_n F dX11_readBookLine_68 rfl 1 rfl ?_
          refine x_iconst F (v := 3) dX11_readBookLine_69 (by decide) ?_
          obtain ⟨k70, h⟩ := gdS h
          obtain ⟨⟨x70, M70⟩, c70, h⟩ := bdS h
          dsimp only at h
          refine x_callV F (As := [.int 3]) (rest := []) (res := (some (.int x70))) (ci := 11) (q := (RX11, TX11, 45)) rfl (by decide) k70 (k_X11_bad l b D cy N v0 3 M61 _ _ c70) wl_895 wl_896 wl_897 wl_854 wl_891 hd_X11_bad ⟨Nat.le_of_ble_eq_true rfl, Nat.le_of_ble_eq_true rfl⟩ ⟨Nat.le_refl _, Nat.le_refl _⟩ (Nat.le_of_ble_eq_true rfl) rfl dX11_readBookLine_70 ?_
          obtain ⟨c73, h⟩ := gdS h
          obtain ⟨rfl, rfl⟩ := retS h
          exact x_zret F hr hl c73 dX11_readBookLine_73
      · rw [if_pos c36] at h
        refine x_aload_n F dX11_readBookLine_39 rfl 1 rfl ?_
        refine x_iconst F (v := 1) dX11_readBookLine_40 (by decide) ?_
        obtain ⟨k41, h⟩ := gdS h
        obtain ⟨⟨x41, M41⟩, c41, h⟩ := bdS h
        dsimp only at h
        refine x_callV F (As := [.int 1]) (rest := []) (res := (some (.int x41))) (ci := 11) (q := (RX11, TX11, 45)) rfl (by decide) k41 (k_X11_bad l b D cy N v0 1 M33 _ _ c41) wl_895 wl_896 wl_897 wl_854 wl_891 hd_X11_bad ⟨Nat.le_of_ble_eq_true rfl, Nat.le_of_ble_eq_true rfl⟩ ⟨Nat.le_refl _, Nat.le_refl _⟩ (Nat.le_of_ble_eq_true rfl) rfl dX11_readBookLine_41 ?_
        obtain ⟨c44, h⟩ := gdS h
        obtain ⟨rfl, rfl⟩ := retS h
        exact x_zret F hr hl c44 dX11_readBookLine_44
  show X p l e ({ frames := 7, cells := 0, slots := 0, locals := 100 * 7 }) s m args below meth c (MQ below (Qm b D cy (some (.int r)) Mf) args s 0 0 (fun q => b ≤ q)) 4 b D cy 0 0 M 0 [(0, .ref (b + v0))] []
  refine x_aload_n F dX11_readBookLine_0 rfl 0 rfl ?_
  refine x_bipush F (v := 6) dX11_readBookLine_1 (by decide) ?_
  obtain ⟨k3, h⟩ := gdS h
  obtain ⟨⟨x3, M3⟩, c3, h⟩ := bdS h
  dsimp only at h
  refine x_callV F (As := [.int 6]) (rest := []) (res := (some (.int x3))) (ci := 11) (q := (RX11, TX11, 45)) rfl (by decide) k3 (k_X11_isWord l b D cy N v0 6 M _ _ c3) wl_967 wl_968 wl_969 wl_854 wl_886 hd_X11_isWord ⟨Nat.le_of_ble_eq_true rfl, Nat.le_of_ble_eq_true rfl⟩ ⟨Nat.le_refl _, Nat.le_refl _⟩ (Nat.le_of_ble_eq_true rfl) rfl dX11_readBookLine_3 ?_
  refine x_if_eq F (tgt := 13) dX11_readBookLine_6 (by decide) (fun c6 => ?_) (fun c6 => ?_)
  · rw [if_pos c6] at h
    refine x_aload_n F dX11_readBookLine_13 rfl 0 rfl ?_
    refine x_bipush F (v := 7) dX11_readBookLine_14 (by decide) ?_
    obtain ⟨k16, h⟩ := gdS h
    obtain ⟨⟨x16, M16⟩, c16, h⟩ := bdS h
    dsimp only at h
    refine x_callV F (As := [.int 7]) (rest := []) (res := (some (.int x16))) (ci := 11) (q := (RX11, TX11, 45)) rfl (by decide) k16 (k_X11_isWord l b D cy N v0 7 M3 _ _ c16) wl_967 wl_968 wl_969 wl_854 wl_886 hd_X11_isWord ⟨Nat.le_of_ble_eq_true rfl, Nat.le_of_ble_eq_true rfl⟩ ⟨Nat.le_refl _, Nat.le_refl _⟩ (Nat.le_of_ble_eq_true rfl) rfl dX11_readBookLine_16 ?_
    refine x_if_eq F (tgt := 26) dX11_readBookLine_19 (by decide) (fun c19 => ?_) (fun c19 => ?_)
    · rw [if_pos c19] at h
      refine x_iconst F (v := 0) dX11_readBookLine_26 (by decide) ?_
      exact J27 v0 0 M16 h
    · rw [if_neg c19] at h
      refine x_iconst F (v := 2) dX11_readBookLine_22 (by decide) ?_
      refine x_goto F (tgt := 27) dX11_readBookLine_23 (by decide) ?_
      exact J27 v0 2 M16 h
  · rw [if_neg c6] at h
    refine x_iconst F (v := 1) dX11_readBookLine_9 (by decide) ?_
    refine x_goto F (tgt := 27) dX11_readBookLine_10 (by decide) ?_
    exact J27 v0 1 M3 h
theorem dX11_goBy_0 : decode cX11_goBy 0 = .ok (.aload_n 0, 1) := by decide +kernel
theorem dX11_goBy_1 : decode cX11_goBy 1 = .ok (.getfield 145, 3) := by decide +kernel
theorem dX11_goBy_4 : decode cX11_goBy 4 = .ok (.iload_n 1, 1) := by decide +kernel
theorem dX11_goBy_5 : decode cX11_goBy 5 = .ok (.iaload, 1) := by decide +kernel
theorem dX11_goBy_6 : decode cX11_goBy 6 = .ok (.istore_n 2, 1) := by decide +kernel
theorem dX11_goBy_7 : decode cX11_goBy 7 = .ok (.aload_n 0, 1) := by decide +kernel
theorem dX11_goBy_8 : decode cX11_goBy 8 = .ok (.getfield 145, 3) := by decide +kernel
theorem dX11_goBy_11 : decode cX11_goBy 11 = .ok (.iload_n 1, 1) := by decide +kernel
theorem dX11_goBy_12 : decode cX11_goBy 12 = .ok (.iconst 1, 1) := by decide +kernel
theorem dX11_goBy_13 : decode cX11_goBy 13 = .ok (.iadd, 1) := by decide +kernel
theorem dX11_goBy_14 : decode cX11_goBy 14 = .ok (.iaload, 1) := by decide +kernel
theorem dX11_goBy_15 : decode cX11_goBy 15 = .ok (.istore_n 3, 1) := by decide +kernel
theorem dX11_goBy_16 : decode cX11_goBy 16 = .ok (.aload_n 0, 1) := by decide +kernel
theorem dX11_goBy_17 : decode cX11_goBy 17 = .ok (.getfield 145, 3) := by decide +kernel
theorem dX11_goBy_20 : decode cX11_goBy 20 = .ok (.iload_n 1, 1) := by decide +kernel
theorem dX11_goBy_21 : decode cX11_goBy 21 = .ok (.iconst 2, 1) := by decide +kernel
theorem dX11_goBy_22 : decode cX11_goBy 22 = .ok (.iadd, 1) := by decide +kernel
theorem dX11_goBy_23 : decode cX11_goBy 23 = .ok (.iaload, 1) := by decide +kernel
theorem dX11_goBy_24 : decode cX11_goBy 24 = .ok (.istore 4, 2) := by decide +kernel
theorem dX11_goBy_26 : decode cX11_goBy 26 = .ok (.aload_n 0, 1) := by decide +kernel
theorem dX11_goBy_27 : decode cX11_goBy 27 = .ok (.getfield 145, 3) := by decide +kernel
theorem dX11_goBy_30 : decode cX11_goBy 30 = .ok (.iload_n 1, 1) := by decide +kernel
theorem dX11_goBy_31 : decode cX11_goBy 31 = .ok (.iconst 3, 1) := by decide +kernel
theorem dX11_goBy_32 : decode cX11_goBy 32 = .ok (.iadd, 1) := by decide +kernel
theorem dX11_goBy_33 : decode cX11_goBy 33 = .ok (.iaload, 1) := by decide +kernel
theorem dX11_goBy_34 : decode cX11_goBy 34 = .ok (.istore 5, 2) := by decide +kernel
theorem dX11_goBy_36 : decode cX11_goBy 36 = .ok (.iload_n 2, 1) := by decide +kernel
theorem dX11_goBy_37 : decode cX11_goBy 37 = .ok (.iconst 2, 1) := by decide +kernel
theorem dX11_goBy_38 : decode cX11_goBy 38 = .ok (.if_icmp .ne 29, 3) := by decide +kernel
theorem dX11_goBy_41 : decode cX11_goBy 41 = .ok (.aload_n 0, 1) := by decide +kernel
theorem dX11_goBy_42 : decode cX11_goBy 42 = .ok (.getfield 98, 3) := by decide +kernel
theorem dX11_goBy_45 : decode cX11_goBy 45 = .ok (.bipush 35, 2) := by decide +kernel
theorem dX11_goBy_47 : decode cX11_goBy 47 = .ok (.iaload, 1) := by decide +kernel
theorem dX11_goBy_48 : decode cX11_goBy 48 = .ok (.iload_n 3, 1) := by decide +kernel
theorem dX11_goBy_49 : decode cX11_goBy 49 = .ok (.iadd, 1) := by decide +kernel
theorem dX11_goBy_50 : decode cX11_goBy 50 = .ok (.sipush 400, 3) := by decide +kernel
theorem dX11_goBy_53 : decode cX11_goBy 53 = .ok (.if_icmp .le 6, 3) := by decide +kernel
theorem dX11_goBy_56 : decode cX11_goBy 56 = .ok (.bipush 21, 2) := by decide +kernel
theorem dX11_goBy_58 : decode cX11_goBy 58 = .ok (.ireturn, 1) := by decide +kernel
theorem dX11_goBy_59 : decode cX11_goBy 59 = .ok (.aload_n 0, 1) := by decide +kernel
theorem dX11_goBy_60 : decode cX11_goBy 60 = .ok (.iload_n 3, 1) := by decide +kernel
theorem dX11_goBy_61 : decode cX11_goBy 61 = .ok (.invokevirtual 299, 3) := by decide +kernel
theorem dX11_goBy_64 : decode cX11_goBy 64 = .ok (.pop, 1) := by decide +kernel
theorem dX11_goBy_65 : decode cX11_goBy 65 = .ok (.iconst 0, 1) := by decide +kernel
theorem dX11_goBy_66 : decode cX11_goBy 66 = .ok (.ireturn, 1) := by decide +kernel
theorem dX11_goBy_67 : decode cX11_goBy 67 = .ok (.aload_n 0, 1) := by decide +kernel
theorem dX11_goBy_68 : decode cX11_goBy 68 = .ok (.iload 4, 2) := by decide +kernel
theorem dX11_goBy_70 : decode cX11_goBy 70 = .ok (.iload 5, 2) := by decide +kernel
theorem dX11_goBy_72 : decode cX11_goBy 72 = .ok (.invokevirtual 255, 3) := by decide +kernel
theorem dX11_goBy_75 : decode cX11_goBy 75 = .ok (.ifCond .ne 11, 3) := by decide +kernel
theorem dX11_goBy_78 : decode cX11_goBy 78 = .ok (.bipush 10, 2) := by decide +kernel
theorem dX11_goBy_80 : decode cX11_goBy 80 = .ok (.iload_n 2, 1) := by decide +kernel
theorem dX11_goBy_81 : decode cX11_goBy 81 = .ok (.imul, 1) := by decide +kernel
theorem dX11_goBy_82 : decode cX11_goBy 82 = .ok (.bipush 9, 2) := by decide +kernel
theorem dX11_goBy_84 : decode cX11_goBy 84 = .ok (.iadd, 1) := by decide +kernel
theorem dX11_goBy_85 : decode cX11_goBy 85 = .ok (.ireturn, 1) := by decide +kernel
theorem dX11_goBy_86 : decode cX11_goBy 86 = .ok (.iload_n 2, 1) := by decide +kernel
theorem dX11_goBy_87 : decode cX11_goBy 87 = .ok (.ifCond .ne 15, 3) := by decide +kernel
theorem dX11_goBy_90 : decode cX11_goBy 90 = .ok (.aload_n 0, 1) := by decide +kernel
theorem dX11_goBy_91 : decode cX11_goBy 91 = .ok (.iload_n 3, 1) := by decide +kernel
theorem dX11_goBy_92 : decode cX11_goBy 92 = .ok (.iload 4, 2) := by decide +kernel
theorem dX11_goBy_94 : decode cX11_goBy 94 = .ok (.iload 5, 2) := by decide +kernel
theorem dX11_goBy_96 : decode cX11_goBy 96 = .ok (.invokevirtual 270, 3) := by decide +kernel
theorem dX11_goBy_99 : decode cX11_goBy 99 = .ok (.goto 11, 3) := by decide +kernel
theorem dX11_goBy_102 : decode cX11_goBy 102 = .ok (.aload_n 0, 1) := by decide +kernel
theorem dX11_goBy_103 : decode cX11_goBy 103 = .ok (.iload 4, 2) := by decide +kernel
theorem dX11_goBy_105 : decode cX11_goBy 105 = .ok (.iload 5, 2) := by decide +kernel
theorem dX11_goBy_107 : decode cX11_goBy 107 = .ok (.invokevirtual 280, 3) := by decide +kernel
theorem dX11_goBy_110 : decode cX11_goBy 110 = .ok (.istore 6, 2) := by decide +kernel
theorem dX11_goBy_112 : decode cX11_goBy 112 = .ok (.iload 6, 2) := by decide +kernel
theorem dX11_goBy_114 : decode cX11_goBy 114 = .ok (.ifCond .eq 11, 3) := by decide +kernel
theorem dX11_goBy_117 : decode cX11_goBy 117 = .ok (.bipush 10, 2) := by decide +kernel
theorem dX11_goBy_119 : decode cX11_goBy 119 = .ok (.iload_n 2, 1) := by decide +kernel
theorem dX11_goBy_120 : decode cX11_goBy 120 = .ok (.imul, 1) := by decide +kernel
theorem dX11_goBy_121 : decode cX11_goBy 121 = .ok (.iload 6, 2) := by decide +kernel
theorem dX11_goBy_123 : decode cX11_goBy 123 = .ok (.iadd, 1) := by decide +kernel
theorem dX11_goBy_124 : decode cX11_goBy 124 = .ok (.ireturn, 1) := by decide +kernel
theorem dX11_goBy_125 : decode cX11_goBy 125 = .ok (.iload_n 2, 1) := by decide +kernel
theorem dX11_goBy_126 : decode cX11_goBy 126 = .ok (.ifCond .ne 23, 3) := by decide +kernel
theorem dX11_goBy_129 : decode cX11_goBy 129 = .ok (.aload_n 0, 1) := by decide +kernel
theorem dX11_goBy_130 : decode cX11_goBy 130 = .ok (.iload_n 3, 1) := by decide +kernel
theorem dX11_goBy_131 : decode cX11_goBy 131 = .ok (.iload 4, 2) := by decide +kernel
theorem dX11_goBy_133 : decode cX11_goBy 133 = .ok (.iload 5, 2) := by decide +kernel
theorem dX11_goBy_135 : decode cX11_goBy 135 = .ok (.aload_n 0, 1) := by decide +kernel
theorem dX11_goBy_136 : decode cX11_goBy 136 = .ok (.getfield 145, 3) := by decide +kernel
theorem dX11_goBy_139 : decode cX11_goBy 139 = .ok (.iload_n 1, 1) := by decide +kernel
theorem dX11_goBy_140 : decode cX11_goBy 140 = .ok (.iconst 4, 1) := by decide +kernel
theorem dX11_goBy_141 : decode cX11_goBy 141 = .ok (.iadd, 1) := by decide +kernel
theorem dX11_goBy_142 : decode cX11_goBy 142 = .ok (.iaload, 1) := by decide +kernel
theorem dX11_goBy_143 : decode cX11_goBy 143 = .ok (.invokevirtual 276, 3) := by decide +kernel
theorem dX11_goBy_146 : decode cX11_goBy 146 = .ok (.goto 11, 3) := by decide +kernel
theorem dX11_goBy_149 : decode cX11_goBy 149 = .ok (.aload_n 0, 1) := by decide +kernel
theorem dX11_goBy_150 : decode cX11_goBy 150 = .ok (.iload 4, 2) := by decide +kernel
theorem dX11_goBy_152 : decode cX11_goBy 152 = .ok (.iload 5, 2) := by decide +kernel
theorem dX11_goBy_154 : decode cX11_goBy 154 = .ok (.invokevirtual 283, 3) := by decide +kernel
theorem dX11_goBy_157 : decode cX11_goBy 157 = .ok (.iconst 0, 1) := by decide +kernel
theorem dX11_goBy_158 : decode cX11_goBy 158 = .ok (.ireturn, 1) := by decide +kernel
def fX11_goBy_J110 (N : Nat) (v0 : Nat) (v1 : Int32) (v2 : Int32) (v3 : Int32) (v4 : Int32) (v5 : Int32) (s0 : Int32) (M : Mem) : Option (Int32 × Mem) := (if s0 = 0 then (if v2 = 0 then ((fR M 11 v0 36).bind fun x136 => ((aI M x136 (v1 + 4)).bind fun x142 => (if mK M v0 = 12 then ((fX11_doWrite N v0 v3 v4 v5 x142 M).bind fun (u143, M143) => some (0, M143)) else none))) else (if mK M v0 = 12 then ((fX11_doTread N v0 v4 v5 M).bind fun (u154, M154) => some (0, M154)) else none)) else some ((10 * v2) + s0, M))
def fX11_goBy (N : Nat) (v0 : Nat) (v1 : Int32) (M : Mem) : Option (Int32 × Mem) := ((fR M 11 v0 36).bind fun x1 => ((aI M x1 v1).bind fun x5 => ((fR M 11 v0 36).bind fun x8 => ((aI M x8 (v1 + 1)).bind fun x14 => ((fR M 11 v0 36).bind fun x17 => ((aI M x17 (v1 + 2)).bind fun x23 => ((fR M 11 v0 36).bind fun x27 => ((aI M x27 (v1 + 3)).bind fun x33 => (if x5 = 2 then ((fR M 11 v0 14).bind fun x42 => ((aI M x42 35).bind fun x47 => (if (x47 + x14) ≤ 400 then (if mK M v0 = 12 then ((fX11_passHours N v0 x14 M).bind fun (x61, M61) => some (0, M61)) else none) else some (21, M)))) else (if mK M v0 = 12 then ((fX11_isPlace N v0 x23 x33 M).bind fun (x72, M72) => (if x72 = 0 then some ((10 * x5) + 9, M72) else (if x5 = 0 then (if mK M72 v0 = 12 then ((fX11_whyWrite N v0 x14 x23 x33 M72).bind fun (x96, M96) => fX11_goBy_J110 N v0 v1 x5 x14 x23 x33 x96 M96) else none) else (if mK M72 v0 = 12 then ((fX11_whyTread N v0 x23 x33 M72).bind fun (x107, M107) => fX11_goBy_J110 N v0 v1 x5 x14 x23 x33 x107 M107) else none)))) else none))))))))))
set_option maxHeartbeats 4000000 in
set_option maxRecDepth 100000 in
theorem k_X11_goBy (l : Launch) (b : Nat) (D : va_G) (cy : Nat → ClassId) (N : Nat) (v0 : Nat) (v1 : Int32) (M : Mem) (r : Int32) (Mf : Mem) (h : fX11_goBy N v0 v1 M = some (r, Mf)) : Ct l yX11_goBy cX11_goBy 7 (some .int) 10 0 0 b D cy [.ref (b + v0), .int v1] M (some (.int r)) Mf := by
  refine Ct_of (own := RX11) (by decide) rfl (Nat.le_of_ble_eq_true rfl) ?_
  intro p e s m args below meth c F hr hl hmn
  unfold fX11_goBy at h
  have J110 : ∀ (v0 : Nat) (v1 : Int32) (v2 : Int32) (v3 : Int32) (v4 : Int32) (v5 : Int32) (s0 : Int32) (M : Mem), fX11_goBy_J110 N v0 v1 v2 v3 v4 v5 s0 M = some (r, Mf) → X p l e ({ frames := 10, cells := 0, slots := 0, locals := 100 * 10 }) s m args below meth c (MQ below (Qm b D cy (some (.int r)) Mf) args s 0 0 (fun q => b ≤ q)) 7 b D cy 0 0 M 110 [(0, .ref (b + v0)), (1, .int v1), (2, .int v2), (3, .int v3), (4, .int v4), (5, .int v5)] [.int s0] := by
    intro v0 v1 v2 v3 v4 v5 s0 M h
    unfold fX11_goBy_J110 at h
    refine x_istore F (lv' := [(6, .int s0), (0, .ref (b + v0)), (1, .int v1), (2, .int v2), (3, .int v3), (4, .int v4), (5, .int v5)]) dX11_goBy_110 (by decide) rfl ?_
    refine x_iload F dX11_goBy_112 0 rfl ?_
    refine x_if_eq F (tgt := 125) dX11_goBy_114 (by decide) (fun c114 => ?_) (fun c114 => ?_)
    · rw [if_pos c114] at h
      refine x_iload_n F dX11_goBy_125 rfl 3 rfl ?_
      refine x_if_ne F (tgt := 149) dX11_goBy_126 (by decide) (fun c126 => ?_) (fun c126 => ?_)
      · rw [if_neg c126] at h
        refine x_aload_n F dX11_goBy_149 rfl 1 rfl ?_
        refine x_iload F dX11_goBy_150 5 rfl ?_
        refine x_iload F dX11_goBy_152 6 rfl ?_
        obtain ⟨k154, h⟩ := gdS h
        obtain ⟨⟨u154, M154⟩, c154, h⟩ := bdS h
        dsimp only at h
        refine x_callV F (As := [.int v4, .int v5]) (rest := []) (res := none) (ci := 11) (q := (RX11, TX11, 45)) rfl (by decide) k154 (k_X11_doTread l b D cy N v0 v4 v5 M _ _ c154) wl_1087 wl_1088 wl_1089 wl_854 wl_1073 hd_X11_doTread ⟨Nat.le_of_ble_eq_true rfl, Nat.le_of_ble_eq_true rfl⟩ ⟨Nat.le_refl _, Nat.le_refl _⟩ (Nat.le_of_ble_eq_true rfl) rfl dX11_goBy_154 ?_
        refine x_iconst F (v := 0) dX11_goBy_157 (by decide) ?_
        obtain ⟨rfl, rfl⟩ := retS h
        exact x_iret F hr hl dX11_goBy_158
      · rw [if_pos c126] at h
        refine x_aload_n F dX11_goBy_129 rfl 1 rfl ?_
        refine x_iload_n F dX11_goBy_130 rfl 4 rfl ?_
        refine x_iload F dX11_goBy_131 5 rfl ?_
        refine x_iload F dX11_goBy_133 6 rfl ?_
        refine x_aload_n F dX11_goBy_135 rfl 1 rfl ?_
        obtain ⟨x136, c136, h⟩ := bdS h
        refine x_getR F (ci := 11) (C := RX11) (T := TX11) (N := 45) rfl ⟨by decide, rfl⟩ inU11 36 (by decide) (fun _ _ _ => rfl) wl_929 c136 dX11_goBy_136 ?_
        refine x_iload_n F dX11_goBy_139 rfl 2 rfl ?_
        refine x_iconst F (v := 4) dX11_goBy_140 (by decide) ?_
        refine x_iadd F dX11_goBy_141 ?_
        obtain ⟨x142, c142, h⟩ := bdS h
        refine x_aI F c142 dX11_goBy_142 ?_
        obtain ⟨k143, h⟩ := gdS h
        obtain ⟨⟨u143, M143⟩, c143, h⟩ := bdS h
        dsimp only at h
        refine x_callV F (As := [.int v3, .int v4, .int v5, .int x142]) (rest := []) (res := none) (ci := 11) (q := (RX11, TX11, 45)) rfl (by decide) k143 (k_X11_doWrite l b D cy N v0 v3 v4 v5 x142 M _ _ c143) wl_1080 wl_1081 wl_1082 wl_854 wl_1071 hd_X11_doWrite ⟨Nat.le_of_ble_eq_true rfl, Nat.le_of_ble_eq_true rfl⟩ ⟨Nat.le_refl _, Nat.le_refl _⟩ (Nat.le_of_ble_eq_true rfl) rfl dX11_goBy_143 ?_
        refine x_goto F (tgt := 157) dX11_goBy_146 (by decide) ?_
        refine x_iconst F (v := 0) dX11_goBy_157 (by decide) ?_
        obtain ⟨rfl, rfl⟩ := retS h
        exact x_iret F hr hl dX11_goBy_158
    · rw [if_neg c114] at h
      refine x_bipush F (v := 10) dX11_goBy_117 (by decide) ?_
      refine x_iload_n F dX11_goBy_119 rfl 3 rfl ?_
      refine x_imul F dX11_goBy_120 ?_
      refine x_iload F dX11_goBy_121 0 rfl ?_
      refine x_iadd F dX11_goBy_123 ?_
      obtain ⟨rfl, rfl⟩ := retS h
      exact x_iret F hr hl dX11_goBy_124
  show X p l e ({ frames := 10, cells := 0, slots := 0, locals := 100 * 10 }) s m args below meth c (MQ below (Qm b D cy (some (.int r)) Mf) args s 0 0 (fun q => b ≤ q)) 7 b D cy 0 0 M 0 [(0, .ref (b + v0)), (1, .int v1)] []
  refine x_aload_n F dX11_goBy_0 rfl 0 rfl ?_
  obtain ⟨x1, c1, h⟩ := bdS h
  refine x_getR F (ci := 11) (C := RX11) (T := TX11) (N := 45) rfl ⟨by decide, rfl⟩ inU11 36 (by decide) (fun _ _ _ => rfl) wl_929 c1 dX11_goBy_1 ?_
  refine x_iload_n F dX11_goBy_4 rfl 1 rfl ?_
  obtain ⟨x5, c5, h⟩ := bdS h
  refine x_aI F c5 dX11_goBy_5 ?_
  refine x_istore_n F (lv' := [(2, .int x5), (0, .ref (b + v0)), (1, .int v1)]) dX11_goBy_6 rfl (by decide) rfl ?_
  refine x_aload_n F dX11_goBy_7 rfl 1 rfl ?_
  obtain ⟨x8, c8, h⟩ := bdS h
  refine x_getR F (ci := 11) (C := RX11) (T := TX11) (N := 45) rfl ⟨by decide, rfl⟩ inU11 36 (by decide) (fun _ _ _ => rfl) wl_929 c8 dX11_goBy_8 ?_
  refine x_iload_n F dX11_goBy_11 rfl 2 rfl ?_
  refine x_iconst F (v := 1) dX11_goBy_12 (by decide) ?_
  refine x_iadd F dX11_goBy_13 ?_
  obtain ⟨x14, c14, h⟩ := bdS h
  refine x_aI F c14 dX11_goBy_14 ?_
  refine x_istore_n F (lv' := [(3, .int x14), (2, .int x5), (0, .ref (b + v0)), (1, .int v1)]) dX11_goBy_15 rfl (by decide) rfl ?_
  refine x_aload_n F dX11_goBy_16 rfl 2 rfl ?_
  obtain ⟨x17, c17, h⟩ := bdS h
  refine x_getR F (ci := 11) (C := RX11) (T := TX11) (N := 45) rfl ⟨by decide, rfl⟩ inU11 36 (by decide) (fun _ _ _ => rfl) wl_929 c17 dX11_goBy_17 ?_
  refine x_iload_n F dX11_goBy_20 rfl 3 rfl ?_
  refine x_iconst F (v := 2) dX11_goBy_21 (by decide) ?_
  refine x_iadd F dX11_goBy_22 ?_
  obtain ⟨x23, c23, h⟩ := bdS h
  refine x_aI F c23 dX11_goBy_23 ?_
  refine x_istore F (lv' := [(4, .int x23), (3, .int x14), (2, .int x5), (0, .ref (b + v0)), (1, .int v1)]) dX11_goBy_24 (by decide) rfl ?_
  refine x_aload_n F dX11_goBy_26 rfl 3 rfl ?_
  obtain ⟨x27, c27, h⟩ := bdS h
  refine x_getR F (ci := 11) (C := RX11) (T := TX11) (N := 45) rfl ⟨by decide, rfl⟩ inU11 36 (by decide) (fun _ _ _ => rfl) wl_929 c27 dX11_goBy_27 ?_
  refine x_iload_n F dX11_goBy_30 rfl 4 rfl ?_
  refine x_iconst F (v := 3) dX11_goBy_31 (by decide) ?_
  refine x_iadd F dX11_goBy_32 ?_
  obtain ⟨x33, c33, h⟩ := bdS h
  refine x_aI F c33 dX11_goBy_33 ?_
  refine x_istore F (lv' := [(5, .int x33), (4, .int x23), (3, .int x14), (2, .int x5), (0, .ref (b + v0)), (1, .int v1)]) dX11_goBy_34 (by decide) rfl ?_
  refine x_iload_n F dX11_goBy_36 rfl 3 rfl ?_
  refine x_iconst F (v := 2) dX11_goBy_37 (by decide) ?_
  refine x_icmp_ne F (tgt := 67) dX11_goBy_38 (by decide) (fun c38 => ?_) (fun c38 => ?_)
  · rw [if_neg c38] at h
    refine x_aload_n F dX11_goBy_67 rfl 4 rfl ?_
    refine x_iload F dX11_goBy_68 1 rfl ?_
    refine x_iload F dX11_goBy_70 0 rfl ?_
    obtain ⟨k72, h⟩ := gdS h
    obtain ⟨⟨x72, M72⟩, c72, h⟩ := bdS h
    dsimp only at h
    refine x_callV F (As := [.int x23, .int x33]) (rest := []) (res := (some (.int x72))) (ci := 11) (q := (RX11, TX11, 45)) rfl (by decide) k72 (k_X11_isPlace l b D cy N v0 x23 x33 M _ _ c72) wl_1050 wl_1051 wl_1052 wl_854 wl_1001 hd_X11_isPlace ⟨Nat.le_of_ble_eq_true rfl, Nat.le_of_ble_eq_true rfl⟩ ⟨Nat.le_refl _, Nat.le_refl _⟩ (Nat.le_of_ble_eq_true rfl) rfl dX11_goBy_72 ?_
    refine x_if_ne F (tgt := 86) dX11_goBy_75 (by decide) (fun c75 => ?_) (fun c75 => ?_)
    · rw [if_neg c75] at h
      refine x_iload_n F dX11_goBy_86 rfl 3 rfl ?_
      refine x_if_ne F (tgt := 102) dX11_goBy_87 (by decide) (fun c87 => ?_) (fun c87 => ?_)
      · rw [if_neg c87] at h
        refine x_aload_n F dX11_goBy_102 rfl 4 rfl ?_
        refine x_iload F dX11_goBy_103 1 rfl ?_
        refine x_iload F dX11_goBy_105 0 rfl ?_
        obtain ⟨k107, h⟩ := gdS h
        obtain ⟨⟨x107, M107⟩, c107, h⟩ := bdS h
        dsimp only at h
        refine x_callV F (As := [.int x23, .int x33]) (rest := []) (res := (some (.int x107))) (ci := 11) (q := (RX11, TX11, 45)) rfl (by decide) k107 (k_X11_whyTread l b D cy N v0 x23 x33 M72 _ _ c107) wl_1084 wl_1085 wl_1086 wl_854 wl_1072 hd_X11_whyTread ⟨Nat.le_of_ble_eq_true rfl, Nat.le_of_ble_eq_true rfl⟩ ⟨Nat.le_refl _, Nat.le_refl _⟩ (Nat.le_of_ble_eq_true rfl) rfl dX11_goBy_107 ?_
        refine x_sub [4, 5, 3, 2, 1, 0] rfl ?_
        exact J110 v0 v1 x5 x14 x23 x33 x107 M107 h
      · rw [if_pos c87] at h
        refine x_aload_n F dX11_goBy_90 rfl 4 rfl ?_
        refine x_iload_n F dX11_goBy_91 rfl 2 rfl ?_
        refine x_iload F dX11_goBy_92 1 rfl ?_
        refine x_iload F dX11_goBy_94 0 rfl ?_
        obtain ⟨k96, h⟩ := gdS h
        obtain ⟨⟨x96, M96⟩, c96, h⟩ := bdS h
        dsimp only at h
        refine x_callV F (As := [.int x14, .int x23, .int x33]) (rest := []) (res := (some (.int x96))) (ci := 11) (q := (RX11, TX11, 45)) rfl (by decide) k96 (k_X11_whyWrite l b D cy N v0 x14 x23 x33 M72 _ _ c96) wl_1074 wl_1075 wl_1076 wl_854 wl_1070 hd_X11_whyWrite ⟨Nat.le_of_ble_eq_true rfl, Nat.le_of_ble_eq_true rfl⟩ ⟨Nat.le_refl _, Nat.le_refl _⟩ (Nat.le_of_ble_eq_true rfl) rfl dX11_goBy_96 ?_
        refine x_goto F (tgt := 110) dX11_goBy_99 (by decide) ?_
        refine x_sub [4, 5, 3, 2, 1, 0] rfl ?_
        exact J110 v0 v1 x5 x14 x23 x33 x96 M96 h
    · rw [if_pos c75] at h
      refine x_bipush F (v := 10) dX11_goBy_78 (by decide) ?_
      refine x_iload_n F dX11_goBy_80 rfl 3 rfl ?_
      refine x_imul F dX11_goBy_81 ?_
      refine x_bipush F (v := 9) dX11_goBy_82 (by decide) ?_
      refine x_iadd F dX11_goBy_84 ?_
      obtain ⟨rfl, rfl⟩ := retS h
      exact x_iret F hr hl dX11_goBy_85
  · rw [if_pos c38] at h
    refine x_aload_n F dX11_goBy_41 rfl 4 rfl ?_
    obtain ⟨x42, c42, h⟩ := bdS h
    refine x_getR F (ci := 11) (C := RX11) (T := TX11) (N := 45) rfl ⟨by decide, rfl⟩ inU11 14 (by decide) (fun _ _ _ => rfl) wl_913 c42 dX11_goBy_42 ?_
    refine x_bipush F (v := 35) dX11_goBy_45 (by decide) ?_
    obtain ⟨x47, c47, h⟩ := bdS h
    refine x_aI F c47 dX11_goBy_47 ?_
    refine x_iload_n F dX11_goBy_48 rfl 2 rfl ?_
    refine x_iadd F dX11_goBy_49 ?_
    refine x_sipush F (v := 400) dX11_goBy_50 (by decide) ?_
    refine x_icmp_le F (tgt := 59) dX11_goBy_53 (by decide) (fun c53 => ?_) (fun c53 => ?_)
    · rw [if_pos c53] at h
      refine x_aload_n F dX11_goBy_59 rfl 4 rfl ?_
      refine x_iload_n F dX11_goBy_60 rfl 2 rfl ?_
      obtain ⟨k61, h⟩ := gdS h
      obtain ⟨⟨x61, M61⟩, c61, h⟩ := bdS h
      dsimp only at h
      refine x_callV F (As := [.int x14]) (rest := []) (res := (some (.int x61))) (ci := 11) (q := (RX11, TX11, 45)) rfl (by decide) k61 (k_X11_passHours l b D cy N v0 x14 M _ _ c61) wl_1108 wl_1109 wl_1110 wl_854 wl_1107 hd_X11_passHours ⟨Nat.le_of_ble_eq_true rfl, Nat.le_of_ble_eq_true rfl⟩ ⟨Nat.le_refl _, Nat.le_refl _⟩ (Nat.le_of_ble_eq_true rfl) rfl dX11_goBy_61 ?_
      refine x_pop F dX11_goBy_64 rfl ?_
      refine x_iconst F (v := 0) dX11_goBy_65 (by decide) ?_
      obtain ⟨rfl, rfl⟩ := retS h
      exact x_iret F hr hl dX11_goBy_66
    · rw [if_neg c53] at h
      refine x_bipush F (v := 21) dX11_goBy_56 (by decide) ?_
      obtain ⟨rfl, rfl⟩ := retS h
      exact x_iret F hr hl dX11_goBy_58
theorem dX11_stay_0 : decode cX11_stay 0 = .ok (.iconst 0, 1) := by decide +kernel
theorem dX11_stay_1 : decode cX11_stay 1 = .ok (.istore_n 2, 1) := by decide +kernel
theorem dX11_stay_2 : decode cX11_stay 2 = .ok (.iload_n 2, 1) := by decide +kernel
theorem dX11_stay_3 : decode cX11_stay 3 = .ok (.sipush 164, 3) := by decide +kernel
theorem dX11_stay_6 : decode cX11_stay 6 = .ok (.if_icmp .ge 41, 3) := by decide +kernel
theorem dX11_stay_9 : decode cX11_stay 9 = .ok (.aload_n 0, 1) := by decide +kernel
theorem dX11_stay_10 : decode cX11_stay 10 = .ok (.getfield 98, 3) := by decide +kernel
theorem dX11_stay_13 : decode cX11_stay 13 = .ok (.bipush 35, 2) := by decide +kernel
theorem dX11_stay_15 : decode cX11_stay 15 = .ok (.iload_n 2, 1) := by decide +kernel
theorem dX11_stay_16 : decode cX11_stay 16 = .ok (.iadd, 1) := by decide +kernel
theorem dX11_stay_17 : decode cX11_stay 17 = .ok (.iaload, 1) := by decide +kernel
theorem dX11_stay_18 : decode cX11_stay 18 = .ok (.istore_n 3, 1) := by decide +kernel
theorem dX11_stay_19 : decode cX11_stay 19 = .ok (.aload_n 0, 1) := by decide +kernel
theorem dX11_stay_20 : decode cX11_stay 20 = .ok (.getfield 98, 3) := by decide +kernel
theorem dX11_stay_23 : decode cX11_stay 23 = .ok (.bipush 35, 2) := by decide +kernel
theorem dX11_stay_25 : decode cX11_stay 25 = .ok (.iload_n 2, 1) := by decide +kernel
theorem dX11_stay_26 : decode cX11_stay 26 = .ok (.iadd, 1) := by decide +kernel
theorem dX11_stay_27 : decode cX11_stay 27 = .ok (.aload_n 0, 1) := by decide +kernel
theorem dX11_stay_28 : decode cX11_stay 28 = .ok (.getfield 110, 3) := by decide +kernel
theorem dX11_stay_31 : decode cX11_stay 31 = .ok (.iload_n 2, 1) := by decide +kernel
theorem dX11_stay_32 : decode cX11_stay 32 = .ok (.iaload, 1) := by decide +kernel
theorem dX11_stay_33 : decode cX11_stay 33 = .ok (.iastore, 1) := by decide +kernel
theorem dX11_stay_34 : decode cX11_stay 34 = .ok (.aload_n 0, 1) := by decide +kernel
theorem dX11_stay_35 : decode cX11_stay 35 = .ok (.getfield 110, 3) := by decide +kernel
theorem dX11_stay_38 : decode cX11_stay 38 = .ok (.iload_n 2, 1) := by decide +kernel
theorem dX11_stay_39 : decode cX11_stay 39 = .ok (.iload_n 3, 1) := by decide +kernel
theorem dX11_stay_40 : decode cX11_stay 40 = .ok (.iastore, 1) := by decide +kernel
theorem dX11_stay_41 : decode cX11_stay 41 = .ok (.iinc 2 1, 3) := by decide +kernel
theorem dX11_stay_44 : decode cX11_stay 44 = .ok (.goto (-42), 3) := by decide +kernel
theorem dX11_stay_47 : decode cX11_stay 47 = .ok (.iload_n 1, 1) := by decide +kernel
theorem dX11_stay_48 : decode cX11_stay 48 = .ok (.ifCond .ne 4, 3) := by decide +kernel
theorem dX11_stay_51 : decode cX11_stay 51 = .ok (.return_, 1) := by decide +kernel
theorem dX11_stay_52 : decode cX11_stay 52 = .ok (.aload_n 0, 1) := by decide +kernel
theorem dX11_stay_53 : decode cX11_stay 53 = .ok (.invokevirtual 273, 3) := by decide +kernel
theorem dX11_stay_56 : decode cX11_stay 56 = .ok (.aload_n 0, 1) := by decide +kernel
theorem dX11_stay_57 : decode cX11_stay 57 = .ok (.invokevirtual 365, 3) := by decide +kernel
theorem dX11_stay_60 : decode cX11_stay 60 = .ok (.return_, 1) := by decide +kernel
def fX11_stay_L2 (N : Nat) (v0 : Nat) (v1 : Int32) : Nat → Int32 → Mem → Option (Mem)
  | 0, _, _ => none
  | n + 1, v2, M => (if 164 ≤ v2 then some M else ((fR M 11 v0 14).bind fun x10 => ((aI M x10 (35 + v2)).bind fun x17 => ((fR M 11 v0 14).bind fun x20 => ((fR M 11 v0 18).bind fun x28 => ((aI M x28 v2).bind fun x32 => ((tI M x20 (35 + v2) x32).bind fun M33 => ((fR M33 11 v0 18).bind fun x35 => ((tI M33 x35 v2 x17).bind fun M40 => fX11_stay_L2 N v0 v1 n (v2 + 1) M40)))))))))
def fX11_stay (N : Nat) (v0 : Nat) (v1 : Int32) (M : Mem) : Option (Unit × Mem) := ((fX11_stay_L2 N v0 v1 N 0 M).bind fun o2 => (if v1 = 0 then some ((), o2) else (if mK o2 v0 = 12 then ((fX11_snap N v0 o2).bind fun (u53, M53) => (if mK M53 v0 = 12 then ((fX11_takeBack N v0 M53).bind fun (u57, M57) => some ((), M57)) else none)) else none)))
set_option maxHeartbeats 4000000 in
set_option maxRecDepth 100000 in
theorem k_X11_stay (l : Launch) (b : Nat) (D : va_G) (cy : Nat → ClassId) (N : Nat) (v0 : Nat) (v1 : Int32) (M : Mem) (r : Unit) (Mf : Mem) (h : fX11_stay N v0 v1 M = some (r, Mf)) : Ct l yX11_stay cX11_stay 4 none 2 0 0 b D cy [.ref (b + v0), .int v1] M none Mf := by
  refine Ct_of (own := RX11) (by decide) rfl (Nat.le_of_ble_eq_true rfl) ?_
  intro p e s m args below meth c F hr hl hmn
  unfold fX11_stay at h
  show X p l e ({ frames := 2, cells := 0, slots := 0, locals := 100 * 2 }) s m args below meth c (MQ below (Qm b D cy none Mf) args s 0 0 (fun q => b ≤ q)) 4 b D cy 0 0 M 0 [(0, .ref (b + v0)), (1, .int v1)] []
  refine x_iconst F (v := 0) dX11_stay_0 (by decide) ?_
  refine x_istore_n F (lv' := [(2, .int 0), (0, .ref (b + v0)), (1, .int v1)]) dX11_stay_1 rfl (by decide) rfl ?_
  have L2 : ∀ (v0 : Nat) (v1 : Int32) (n : Nat) (v2 : Int32) (M : Mem) (o : Mem), fX11_stay_L2 N v0 v1 n v2 M = some o → X p l e ({ frames := 2, cells := 0, slots := 0, locals := 100 * 2 }) s m args below meth c (MQ below (Qm b D cy none Mf) args s 0 0 (fun q => b ≤ q)) 4 b D cy 0 0 o 47 [(0, .ref (b + v0)), (1, .int v1)] [] → X p l e ({ frames := 2, cells := 0, slots := 0, locals := 100 * 2 }) s m args below meth c (MQ below (Qm b D cy none Mf) args s 0 0 (fun q => b ≤ q)) 4 b D cy 0 0 M 2 [(0, .ref (b + v0)), (1, .int v1), (2, .int v2)] [] := by
    intro v0 v1 n
    induction n with
    | zero => intro v2 M o h; exact absurd h (by rw [fX11_stay_L2]; exact fun z => by cases z)
    | succ n ih =>
      intro v2 M o h hE
      rw [fX11_stay_L2] at h
      refine x_iload_n F dX11_stay_2 rfl 2 rfl ?_
      refine x_sipush F (v := 164) dX11_stay_3 (by decide) ?_
      refine x_icmp_ge F (tgt := 47) dX11_stay_6 (by decide) (fun c6 => ?_) (fun c6 => ?_)
      · rw [if_pos c6] at h
        obtain rfl := Option.some.inj h
        refine x_sub [0, 1] rfl ?_
        exact hE
      · rw [if_neg c6] at h
        refine x_aload_n F dX11_stay_9 rfl 0 rfl ?_
        obtain ⟨x10, c10, h⟩ := bdS h
        refine x_getR F (ci := 11) (C := RX11) (T := TX11) (N := 45) rfl ⟨by decide, rfl⟩ inU11 14 (by decide) (fun _ _ _ => rfl) wl_913 c10 dX11_stay_10 ?_
        refine x_bipush F (v := 35) dX11_stay_13 (by decide) ?_
        refine x_iload_n F dX11_stay_15 rfl 2 rfl ?_
        refine x_iadd F dX11_stay_16 ?_
        obtain ⟨x17, c17, h⟩ := bdS h
        refine x_aI F c17 dX11_stay_17 ?_
        refine x_istore_n F (lv' := [(3, .int x17), (0, .ref (b + v0)), (1, .int v1), (2, .int v2)]) dX11_stay_18 rfl (by decide) rfl ?_
        refine x_aload_n F dX11_stay_19 rfl 1 rfl ?_
        obtain ⟨x20, c20, h⟩ := bdS h
        refine x_getR F (ci := 11) (C := RX11) (T := TX11) (N := 45) rfl ⟨by decide, rfl⟩ inU11 14 (by decide) (fun _ _ _ => rfl) wl_913 c20 dX11_stay_20 ?_
        refine x_bipush F (v := 35) dX11_stay_23 (by decide) ?_
        refine x_iload_n F dX11_stay_25 rfl 3 rfl ?_
        refine x_iadd F dX11_stay_26 ?_
        refine x_aload_n F dX11_stay_27 rfl 1 rfl ?_
        obtain ⟨x28, c28, h⟩ := bdS h
        refine x_getR F (ci := 11) (C := RX11) (T := TX11) (N := 45) rfl ⟨by decide, rfl⟩ inU11 18 (by decide) (fun _ _ _ => rfl) wl_918 c28 dX11_stay_28 ?_
        refine x_iload_n F dX11_stay_31 rfl 3 rfl ?_
        obtain ⟨x32, c32, h⟩ := bdS h
        refine x_aI F c32 dX11_stay_32 ?_
        obtain ⟨M33, c33, h⟩ := bdS h
        refine x_tI F c33 dX11_stay_33 ?_
        refine x_aload_n F dX11_stay_34 rfl 1 rfl ?_
        obtain ⟨x35, c35, h⟩ := bdS h
        refine x_getR F (ci := 11) (C := RX11) (T := TX11) (N := 45) rfl ⟨by decide, rfl⟩ inU11 18 (by decide) (fun _ _ _ => rfl) wl_918 c35 dX11_stay_35 ?_
        refine x_iload_n F dX11_stay_38 rfl 3 rfl ?_
        refine x_iload_n F dX11_stay_39 rfl 0 rfl ?_
        obtain ⟨M40, c40, h⟩ := bdS h
        refine x_tI F c40 dX11_stay_40 ?_
        refine x_iinc F (v := v2 + 1) (lv' := [(2, .int (v2 + 1)), (3, .int x17), (0, .ref (b + v0)), (1, .int v1)]) dX11_stay_41 3 rfl rfl (by decide) rfl ?_
        refine x_goto F (tgt := 2) dX11_stay_44 (by decide) ?_
        refine x_sub [2, 3, 0] rfl ?_
        exact ih (v2 + 1) M40 o h hE
  obtain ⟨o2, h2, h⟩ := bdS h
  refine x_sub [1, 2, 0] rfl ?_
  refine L2 v0 v1 N 0 M o2 h2 ?_
  refine x_iload_n F dX11_stay_47 rfl 1 rfl ?_
  refine x_if_ne F (tgt := 52) dX11_stay_48 (by decide) (fun c48 => ?_) (fun c48 => ?_)
  · rw [if_neg c48] at h
    refine x_aload_n F dX11_stay_52 rfl 0 rfl ?_
    obtain ⟨k53, h⟩ := gdS h
    obtain ⟨⟨u53, M53⟩, c53, h⟩ := bdS h
    dsimp only at h
    refine x_callV F (As := []) (rest := []) (res := none) (ci := 11) (q := (RX11, TX11, 45)) rfl (by decide) k53 (k_X11_snap l b D cy N v0 o2 _ _ c53) wl_1077 wl_1078 wl_1079 wl_854 wl_1069 hd_X11_snap ⟨Nat.le_of_ble_eq_true rfl, Nat.le_of_ble_eq_true rfl⟩ ⟨Nat.le_refl _, Nat.le_refl _⟩ (Nat.le_of_ble_eq_true rfl) rfl dX11_stay_53 ?_
    refine x_aload_n F dX11_stay_56 rfl 0 rfl ?_
    obtain ⟨k57, h⟩ := gdS h
    obtain ⟨⟨u57, M57⟩, c57, h⟩ := bdS h
    dsimp only at h
    refine x_callV F (As := []) (rest := []) (res := none) (ci := 11) (q := (RX11, TX11, 45)) rfl (by decide) k57 (k_X11_takeBack l b D cy N v0 M53 _ _ c57) wl_1189 wl_1190 wl_1191 wl_854 wl_1185 hd_X11_takeBack ⟨Nat.le_of_ble_eq_true rfl, Nat.le_of_ble_eq_true rfl⟩ ⟨Nat.le_refl _, Nat.le_refl _⟩ (Nat.le_of_ble_eq_true rfl) rfl dX11_stay_57 ?_
    obtain ⟨rfl, rfl⟩ := retS h
    exact x_vret F hr hl dX11_stay_60
  · rw [if_pos c48] at h
    obtain ⟨rfl, rfl⟩ := retS h
    exact x_vret F hr hl dX11_stay_51
theorem hd_X11_stay : (yX11_stay).cls = RX11 ∧ (yX11_stay).cls ≠ "java/lang/invoke/MethodHandle" ∧ (yX11_stay).cls ≠ "java/lang/invoke/VarHandle" ∧ (parseMethodDescriptor (yX11_stay).desc).map (fun d => d.parameters.length) = some 1 := by decide +kernel
theorem hd_X11_readBookLine : (yX11_readBookLine).cls = RX11 ∧ (yX11_readBookLine).cls ≠ "java/lang/invoke/MethodHandle" ∧ (yX11_readBookLine).cls ≠ "java/lang/invoke/VarHandle" ∧ (parseMethodDescriptor (yX11_readBookLine).desc).map (fun d => d.parameters.length) = some 0 := by decide +kernel
theorem hd_X11_goBy : (yX11_goBy).cls = RX11 ∧ (yX11_goBy).cls ≠ "java/lang/invoke/MethodHandle" ∧ (yX11_goBy).cls ≠ "java/lang/invoke/VarHandle" ∧ (parseMethodDescriptor (yX11_goBy).desc).map (fun d => d.parameters.length) = some 1 := by decide +kernel
theorem dX11_book_0 : decode cX11_book 0 = .ok (.aload_n 0, 1) := by decide +kernel
theorem dX11_book_1 : decode cX11_book 1 = .ok (.iconst 0, 1) := by decide +kernel
theorem dX11_book_2 : decode cX11_book 2 = .ok (.putfield 1, 3) := by decide +kernel
theorem dX11_book_5 : decode cX11_book 5 = .ok (.iload_n 1, 1) := by decide +kernel
theorem dX11_book_6 : decode cX11_book 6 = .ok (.iconst 0, 1) := by decide +kernel
theorem dX11_book_7 : decode cX11_book 7 = .ok (.iconst 1, 1) := by decide +kernel
theorem dX11_book_8 : decode cX11_book 8 = .ok (.invokestatic 75, 3) := by decide +kernel
theorem dX11_book_11 : decode cX11_book 11 = .ok (.ifCond .ne 7, 3) := by decide +kernel
theorem dX11_book_14 : decode cX11_book 14 = .ok (.sipush (-1000), 3) := by decide +kernel
theorem dX11_book_17 : decode cX11_book 17 = .ok (.ireturn, 1) := by decide +kernel
theorem dX11_book_18 : decode cX11_book 18 = .ok (.aload_n 0, 1) := by decide +kernel
theorem dX11_book_19 : decode cX11_book 19 = .ok (.sipush 400, 3) := by decide +kernel
theorem dX11_book_22 : decode cX11_book 22 = .ok (.invokevirtual 204, 3) := by decide +kernel
theorem dX11_book_25 : decode cX11_book 25 = .ok (.aload_n 0, 1) := by decide +kernel
theorem dX11_book_26 : decode cX11_book 26 = .ok (.iconst 0, 1) := by decide +kernel
theorem dX11_book_27 : decode cX11_book 27 = .ok (.putfield 377, 3) := by decide +kernel
theorem dX11_book_30 : decode cX11_book 30 = .ok (.aload_n 0, 1) := by decide +kernel
theorem dX11_book_31 : decode cX11_book 31 = .ok (.getfield 30, 3) := by decide +kernel
theorem dX11_book_34 : decode cX11_book 34 = .ok (.ifCond .eq 31, 3) := by decide +kernel
theorem dX11_book_37 : decode cX11_book 37 = .ok (.aload_n 0, 1) := by decide +kernel
theorem dX11_book_38 : decode cX11_book 38 = .ok (.invokevirtual 383, 3) := by decide +kernel
theorem dX11_book_41 : decode cX11_book 41 = .ok (.ifCond .ne 11, 3) := by decide +kernel
theorem dX11_book_44 : decode cX11_book 44 = .ok (.bipush (-2), 2) := by decide +kernel
theorem dX11_book_46 : decode cX11_book 46 = .ok (.aload_n 0, 1) := by decide +kernel
theorem dX11_book_47 : decode cX11_book 47 = .ok (.getfield 69, 3) := by decide +kernel
theorem dX11_book_50 : decode cX11_book 50 = .ok (.isub, 1) := by decide +kernel
theorem dX11_book_51 : decode cX11_book 51 = .ok (.ireturn, 1) := by decide +kernel
theorem dX11_book_52 : decode cX11_book 52 = .ok (.aload_n 0, 1) := by decide +kernel
theorem dX11_book_53 : decode cX11_book 53 = .ok (.dup, 1) := by decide +kernel
theorem dX11_book_54 : decode cX11_book 54 = .ok (.getfield 377, 3) := by decide +kernel
theorem dX11_book_57 : decode cX11_book 57 = .ok (.iconst 1, 1) := by decide +kernel
theorem dX11_book_58 : decode cX11_book 58 = .ok (.iadd, 1) := by decide +kernel
theorem dX11_book_59 : decode cX11_book 59 = .ok (.putfield 377, 3) := by decide +kernel
theorem dX11_book_62 : decode cX11_book 62 = .ok (.goto (-32), 3) := by decide +kernel
theorem dX11_book_65 : decode cX11_book 65 = .ok (.aload_n 0, 1) := by decide +kernel
theorem dX11_book_66 : decode cX11_book 66 = .ok (.invokevirtual 362, 3) := by decide +kernel
theorem dX11_book_69 : decode cX11_book 69 = .ok (.iconst 0, 1) := by decide +kernel
theorem dX11_book_70 : decode cX11_book 70 = .ok (.istore_n 2, 1) := by decide +kernel
theorem dX11_book_71 : decode cX11_book 71 = .ok (.iconst 0, 1) := by decide +kernel
theorem dX11_book_72 : decode cX11_book 72 = .ok (.istore_n 3, 1) := by decide +kernel
theorem dX11_book_73 : decode cX11_book 73 = .ok (.iload_n 2, 1) := by decide +kernel
theorem dX11_book_74 : decode cX11_book 74 = .ok (.aload_n 0, 1) := by decide +kernel
theorem dX11_book_75 : decode cX11_book 75 = .ok (.getfield 377, 3) := by decide +kernel
theorem dX11_book_78 : decode cX11_book 78 = .ok (.if_icmp .ge 25, 3) := by decide +kernel
theorem dX11_book_81 : decode cX11_book 81 = .ok (.iload_n 3, 1) := by decide +kernel
theorem dX11_book_82 : decode cX11_book 82 = .ok (.ifCond .ne 21, 3) := by decide +kernel
theorem dX11_book_85 : decode cX11_book 85 = .ok (.aload_n 0, 1) := by decide +kernel
theorem dX11_book_86 : decode cX11_book 86 = .ok (.iconst 5, 1) := by decide +kernel
theorem dX11_book_87 : decode cX11_book 87 = .ok (.iload_n 2, 1) := by decide +kernel
theorem dX11_book_88 : decode cX11_book 88 = .ok (.imul, 1) := by decide +kernel
theorem dX11_book_89 : decode cX11_book 89 = .ok (.invokevirtual 386, 3) := by decide +kernel
theorem dX11_book_92 : decode cX11_book 92 = .ok (.istore_n 3, 1) := by decide +kernel
theorem dX11_book_93 : decode cX11_book 93 = .ok (.iload_n 3, 1) := by decide +kernel
theorem dX11_book_94 : decode cX11_book 94 = .ok (.ifCond .ne (-21), 3) := by decide +kernel
theorem dX11_book_97 : decode cX11_book 97 = .ok (.iinc 2 1, 3) := by decide +kernel
theorem dX11_book_100 : decode cX11_book 100 = .ok (.goto (-27), 3) := by decide +kernel
theorem dX11_book_103 : decode cX11_book 103 = .ok (.aload_n 0, 1) := by decide +kernel
theorem dX11_book_104 : decode cX11_book 104 = .ok (.getfield 148, 3) := by decide +kernel
theorem dX11_book_107 : decode cX11_book 107 = .ok (.iconst 0, 1) := by decide +kernel
theorem dX11_book_108 : decode cX11_book 108 = .ok (.iload_n 3, 1) := by decide +kernel
theorem dX11_book_109 : decode cX11_book 109 = .ok (.iastore, 1) := by decide +kernel
theorem dX11_book_110 : decode cX11_book 110 = .ok (.aload_n 0, 1) := by decide +kernel
theorem dX11_book_111 : decode cX11_book 111 = .ok (.getfield 148, 3) := by decide +kernel
theorem dX11_book_114 : decode cX11_book 114 = .ok (.iconst 1, 1) := by decide +kernel
theorem dX11_book_115 : decode cX11_book 115 = .ok (.iload_n 2, 1) := by decide +kernel
theorem dX11_book_116 : decode cX11_book 116 = .ok (.iastore, 1) := by decide +kernel
theorem dX11_book_117 : decode cX11_book 117 = .ok (.aload_n 0, 1) := by decide +kernel
theorem dX11_book_118 : decode cX11_book 118 = .ok (.getfield 148, 3) := by decide +kernel
theorem dX11_book_121 : decode cX11_book 121 = .ok (.iconst 2, 1) := by decide +kernel
theorem dX11_book_122 : decode cX11_book 122 = .ok (.aload_n 0, 1) := by decide +kernel
theorem dX11_book_123 : decode cX11_book 123 = .ok (.getfield 98, 3) := by decide +kernel
theorem dX11_book_126 : decode cX11_book 126 = .ok (.bipush 35, 2) := by decide +kernel
theorem dX11_book_128 : decode cX11_book 128 = .ok (.iaload, 1) := by decide +kernel
theorem dX11_book_129 : decode cX11_book 129 = .ok (.iastore, 1) := by decide +kernel
theorem dX11_book_130 : decode cX11_book 130 = .ok (.aload_n 0, 1) := by decide +kernel
theorem dX11_book_131 : decode cX11_book 131 = .ok (.getfield 148, 3) := by decide +kernel
theorem dX11_book_134 : decode cX11_book 134 = .ok (.iconst 3, 1) := by decide +kernel
theorem dX11_book_135 : decode cX11_book 135 = .ok (.aload_n 0, 1) := by decide +kernel
theorem dX11_book_136 : decode cX11_book 136 = .ok (.getfield 98, 3) := by decide +kernel
theorem dX11_book_139 : decode cX11_book 139 = .ok (.bipush 38, 2) := by decide +kernel
theorem dX11_book_141 : decode cX11_book 141 = .ok (.iaload, 1) := by decide +kernel
theorem dX11_book_142 : decode cX11_book 142 = .ok (.iastore, 1) := by decide +kernel
theorem dX11_book_143 : decode cX11_book 143 = .ok (.aload_n 0, 1) := by decide +kernel
theorem dX11_book_144 : decode cX11_book 144 = .ok (.iconst 1, 1) := by decide +kernel
theorem dX11_book_145 : decode cX11_book 145 = .ok (.putfield 389, 3) := by decide +kernel
theorem dX11_book_148 : decode cX11_book 148 = .ok (.aload_n 0, 1) := by decide +kernel
theorem dX11_book_149 : decode cX11_book 149 = .ok (.iload_n 1, 1) := by decide +kernel
theorem dX11_book_150 : decode cX11_book 150 = .ok (.iconst 1, 1) := by decide +kernel
theorem dX11_book_151 : decode cX11_book 151 = .ok (.if_icmp .ne 11, 3) := by decide +kernel
theorem dX11_book_154 : decode cX11_book 154 = .ok (.iload_n 2, 1) := by decide +kernel
theorem dX11_book_155 : decode cX11_book 155 = .ok (.ifCond .le 7, 3) := by decide +kernel
theorem dX11_book_158 : decode cX11_book 158 = .ok (.iconst 1, 1) := by decide +kernel
theorem dX11_book_159 : decode cX11_book 159 = .ok (.goto 4, 3) := by decide +kernel
theorem dX11_book_162 : decode cX11_book 162 = .ok (.iconst 0, 1) := by decide +kernel
theorem dX11_book_163 : decode cX11_book 163 = .ok (.invokevirtual 392, 3) := by decide +kernel
theorem dX11_book_166 : decode cX11_book 166 = .ok (.iload_n 3, 1) := by decide +kernel
theorem dX11_book_167 : decode cX11_book 167 = .ok (.ifCond .ne 7, 3) := by decide +kernel
theorem dX11_book_170 : decode cX11_book 170 = .ok (.iconst (-1), 1) := by decide +kernel
theorem dX11_book_171 : decode cX11_book 171 = .ok (.goto 4, 3) := by decide +kernel
theorem dX11_book_174 : decode cX11_book 174 = .ok (.iload_n 2, 1) := by decide +kernel
theorem dX11_book_175 : decode cX11_book 175 = .ok (.ireturn, 1) := by decide +kernel
def fX11_book_J163 (N : Nat) (v2 : Int32) (v3 : Int32) (s0 : Int32) (s1 : Nat) (M : Mem) : Option (Int32 × Mem) := (if mK M s1 = 12 then ((fX11_stay N s1 s0 M).bind fun (u163, M163) => (if v3 = 0 then some ((-1), M163) else some (v2, M163))) else none)
def fX11_book_J162 (N : Nat) (v2 : Int32) (v3 : Int32) (s0 : Nat) (M : Mem) : Option (Int32 × Mem) := fX11_book_J163 N v2 v3 0 s0 M
def fX11_book_J103 (N : Nat) (v0 : Nat) (v1 : Int32) (v2 : Int32) (v3 : Int32) (M : Mem) : Option (Int32 × Mem) := ((fR M 11 v0 37).bind fun x104 => ((tI M x104 0 v3).bind fun M109 => ((fR M109 11 v0 37).bind fun x111 => ((tI M109 x111 1 v2).bind fun M116 => ((fR M116 11 v0 37).bind fun x118 => ((fR M116 11 v0 14).bind fun x123 => ((aI M116 x123 35).bind fun x128 => ((tI M116 x118 2 x128).bind fun M129 => ((fR M129 11 v0 37).bind fun x131 => ((fR M129 11 v0 14).bind fun x136 => ((aI M129 x136 38).bind fun x141 => ((tI M129 x131 3 x141).bind fun M142 => ((pZ M142 11 v0 39 1).bind fun M145 => (if v1 = 1 then (if v2 ≤ 0 then fX11_book_J162 N v2 v3 v0 M145 else fX11_book_J163 N v2 v3 1 v0 M145) else fX11_book_J162 N v2 v3 v0 M145))))))))))))))
def fX11_book_L30 (N : Nat) (v0 : Nat) (v1 : Int32) : Nat → Mem → Option ((Mem) ⊕ (Int32 × Mem))
  | 0, _ => none
  | n + 1, M => ((fI M 11 v0 7).bind fun x31 => (if x31 = 0 then some (.inl M) else (if mK M v0 = 12 then ((fX11_readBookLine N v0 M).bind fun (x38, M38) => (if x38 = 0 then ((fI M38 11 v0 11).bind fun x47 => some (.inr (((-2)) - x47, M38))) else ((fI M38 11 v0 38).bind fun x54 => ((pI M38 11 v0 38 (x54 + 1)).bind fun M59 => fX11_book_L30 N v0 v1 n M59)))) else none)))
def fX11_book_L73 (N : Nat) (v0 : Nat) (v1 : Int32) : Nat → Int32 → Int32 → Mem → Option (Int32 × Int32 × Mem)
  | 0, _, _, _ => none
  | n + 1, v2, v3, M => ((fI M 11 v0 38).bind fun x75 => (if x75 ≤ v2 then some (v2, v3, M) else (if v3 = 0 then (if mK M v0 = 12 then ((fX11_goBy N v0 (5 * v2) M).bind fun (x89, M89) => (if x89 = 0 then fX11_book_L73 N v0 v1 n (v2 + 1) x89 M89 else fX11_book_L73 N v0 v1 n v2 x89 M89)) else none) else some (v2, v3, M))))
def fX11_book (N : Nat) (v0 : Nat) (v1 : Int32) (M : Mem) : Option (Int32 × Mem) := ((pI M 11 v0 0 0).bind fun M2 => ((fX11_isIn N v1 0 1 M2).bind fun (x8, M8) => (if x8 = 0 then some ((-1000), M8) else (if mK M8 v0 = 12 then ((fX11_begin N v0 400 M8).bind fun (u22, M22) => ((pI M22 11 v0 38 0).bind fun M27 => ((fX11_book_L30 N v0 v1 N M27).bind fun o30 => match o30 with | .inl M30 => (if mK M30 v0 = 12 then ((fX11_layAside N v0 M30).bind fun (u66, M66) => ((fX11_book_L73 N v0 v1 N 0 0 M66).bind fun o73 => match o73 with | (w2_73, w3_73, M73) => fX11_book_J103 N v0 v1 w2_73 w3_73 M73)) else none) | .inr z => some z))) else none))))
set_option maxHeartbeats 4000000 in
set_option maxRecDepth 100000 in
theorem k_X11_book (l : Launch) (b : Nat) (D : va_G) (cy : Nat → ClassId) (N : Nat) (v0 : Nat) (v1 : Int32) (M : Mem) (r : Int32) (Mf : Mem) (h : fX11_book N v0 v1 M = some (r, Mf)) : Ct l yX11_book cX11_book 4 (some .int) 11 0 0 b D cy [.ref (b + v0), .int v1] M (some (.int r)) Mf := by
  refine Ct_of (own := RX11) (by decide) rfl (Nat.le_of_ble_eq_true rfl) ?_
  intro p e s m args below meth c F hr hl hmn
  unfold fX11_book at h
  have J163 : ∀ (v2 : Int32) (v3 : Int32) (s0 : Int32) (s1 : Nat) (M : Mem), fX11_book_J163 N v2 v3 s0 s1 M = some (r, Mf) → X p l e ({ frames := 11, cells := 0, slots := 0, locals := 100 * 11 }) s m args below meth c (MQ below (Qm b D cy (some (.int r)) Mf) args s 0 0 (fun q => b ≤ q)) 4 b D cy 0 0 M 163 [(2, .int v2), (3, .int v3)] [.int s0, .ref (b + s1)] := by
    intro v2 v3 s0 s1 M h
    unfold fX11_book_J163 at h
    obtain ⟨k163, h⟩ := gdS h
    obtain ⟨⟨u163, M163⟩, c163, h⟩ := bdS h
    dsimp only at h
    refine x_callV F (As := [.int s0]) (rest := []) (res := none) (ci := 11) (q := (RX11, TX11, 45)) rfl (by decide) k163 (k_X11_stay l b D cy N s1 s0 M _ _ c163) wl_1220 wl_1221 wl_1222 wl_854 wl_1212 hd_X11_stay ⟨Nat.le_of_ble_eq_true rfl, Nat.le_of_ble_eq_true rfl⟩ ⟨Nat.le_refl _, Nat.le_refl _⟩ (Nat.le_of_ble_eq_true rfl) rfl dX11_book_163 ?_
    refine x_iload_n F dX11_book_166 rfl 1 rfl ?_
    refine x_if_ne F (tgt := 174) dX11_book_167 (by decide) (fun c167 => ?_) (fun c167 => ?_)
    · rw [if_neg c167] at h
      refine x_iload_n F dX11_book_174 rfl 0 rfl ?_
      obtain ⟨rfl, rfl⟩ := retS h
      exact x_iret F hr hl dX11_book_175
    · rw [if_pos c167] at h
      refine x_iconst F (v := (-1)) dX11_book_170 (by decide) ?_
      refine x_goto F (tgt := 175) dX11_book_171 (by decide) ?_
      obtain ⟨rfl, rfl⟩ := retS h
      exact x_iret F hr hl dX11_book_175
  have J162 : ∀ (v2 : Int32) (v3 : Int32) (s0 : Nat) (M : Mem), fX11_book_J162 N v2 v3 s0 M = some (r, Mf) → X p l e ({ frames := 11, cells := 0, slots := 0, locals := 100 * 11 }) s m args below meth c (MQ below (Qm b D cy (some (.int r)) Mf) args s 0 0 (fun q => b ≤ q)) 4 b D cy 0 0 M 162 [(2, .int v2), (3, .int v3)] [.ref (b + s0)] := by
    intro v2 v3 s0 M h
    unfold fX11_book_J162 at h
    refine x_iconst F (v := 0) dX11_book_162 (by decide) ?_
    exact J163 v2 v3 0 s0 M h
  have J103 : ∀ (v0 : Nat) (v1 : Int32) (v2 : Int32) (v3 : Int32) (M : Mem), fX11_book_J103 N v0 v1 v2 v3 M = some (r, Mf) → X p l e ({ frames := 11, cells := 0, slots := 0, locals := 100 * 11 }) s m args below meth c (MQ below (Qm b D cy (some (.int r)) Mf) args s 0 0 (fun q => b ≤ q)) 4 b D cy 0 0 M 103 [(0, .ref (b + v0)), (1, .int v1), (2, .int v2), (3, .int v3)] [] := by
    intro v0 v1 v2 v3 M h
    unfold fX11_book_J103 at h
    refine x_aload_n F dX11_book_103 rfl 0 rfl ?_
    obtain ⟨x104, c104, h⟩ := bdS h
    refine x_getR F (ci := 11) (C := RX11) (T := TX11) (N := 45) rfl ⟨by decide, rfl⟩ inU11 37 (by decide) (fun _ _ _ => rfl) wl_930 c104 dX11_book_104 ?_
    refine x_iconst F (v := 0) dX11_book_107 (by decide) ?_
    refine x_iload_n F dX11_book_108 rfl 3 rfl ?_
    obtain ⟨M109, c109, h⟩ := bdS h
    refine x_tI F c109 dX11_book_109 ?_
    refine x_aload_n F dX11_book_110 rfl 0 rfl ?_
    obtain ⟨x111, c111, h⟩ := bdS h
    refine x_getR F (ci := 11) (C := RX11) (T := TX11) (N := 45) rfl ⟨by decide, rfl⟩ inU11 37 (by decide) (fun _ _ _ => rfl) wl_930 c111 dX11_book_111 ?_
    refine x_iconst F (v := 1) dX11_book_114 (by decide) ?_
    refine x_iload_n F dX11_book_115 rfl 2 rfl ?_
    obtain ⟨M116, c116, h⟩ := bdS h
    refine x_tI F c116 dX11_book_116 ?_
    refine x_aload_n F dX11_book_117 rfl 0 rfl ?_
    obtain ⟨x118, c118, h⟩ := bdS h
    refine x_getR F (ci := 11) (C := RX11) (T := TX11) (N := 45) rfl ⟨by decide, rfl⟩ inU11 37 (by decide) (fun _ _ _ => rfl) wl_930 c118 dX11_book_118 ?_
    refine x_iconst F (v := 2) dX11_book_121 (by decide) ?_
    refine x_aload_n F dX11_book_122 rfl 0 rfl ?_
    obtain ⟨x123, c123, h⟩ := bdS h
    refine x_getR F (ci := 11) (C := RX11) (T := TX11) (N := 45) rfl ⟨by decide, rfl⟩ inU11 14 (by decide) (fun _ _ _ => rfl) wl_913 c123 dX11_book_123 ?_
    refine x_bipush F (v := 35) dX11_book_126 (by decide) ?_
    obtain ⟨x128, c128, h⟩ := bdS h
    refine x_aI F c128 dX11_book_128 ?_
    obtain ⟨M129, c129, h⟩ := bdS h
    refine x_tI F c129 dX11_book_129 ?_
    refine x_aload_n F dX11_book_130 rfl 0 rfl ?_
    obtain ⟨x131, c131, h⟩ := bdS h
    refine x_getR F (ci := 11) (C := RX11) (T := TX11) (N := 45) rfl ⟨by decide, rfl⟩ inU11 37 (by decide) (fun _ _ _ => rfl) wl_930 c131 dX11_book_131 ?_
    refine x_iconst F (v := 3) dX11_book_134 (by decide) ?_
    refine x_aload_n F dX11_book_135 rfl 0 rfl ?_
    obtain ⟨x136, c136, h⟩ := bdS h
    refine x_getR F (ci := 11) (C := RX11) (T := TX11) (N := 45) rfl ⟨by decide, rfl⟩ inU11 14 (by decide) (fun _ _ _ => rfl) wl_913 c136 dX11_book_136 ?_
    refine x_bipush F (v := 38) dX11_book_139 (by decide) ?_
    obtain ⟨x141, c141, h⟩ := bdS h
    refine x_aI F c141 dX11_book_141 ?_
    obtain ⟨M142, c142, h⟩ := bdS h
    refine x_tI F c142 dX11_book_142 ?_
    refine x_aload_n F dX11_book_143 rfl 0 rfl ?_
    refine x_iconst F (v := 1) dX11_book_144 (by decide) ?_
    obtain ⟨M145, c145, h⟩ := bdS h
    refine x_putZ F (ci := 11) (C := RX11) (T := TX11) (N := 45) rfl ⟨by decide, rfl⟩ inU11 tyX11_ok nmX11 39 (by decide) rfl rfl wl_1213 c145 dX11_book_145 ?_
    refine x_aload_n F dX11_book_148 rfl 0 rfl ?_
    refine x_iload_n F dX11_book_149 rfl 1 rfl ?_
    refine x_iconst F (v := 1) dX11_book_150 (by decide) ?_
    refine x_icmp_ne F (tgt := 162) dX11_book_151 (by decide) (fun c151 => ?_) (fun c151 => ?_)
    · rw [if_neg c151] at h
      refine x_sub [2, 3] rfl ?_
      exact J162 v2 v3 v0 M145 h
    · rw [if_pos c151] at h
      refine x_iload_n F dX11_book_154 rfl 2 rfl ?_
      refine x_if_le F (tgt := 162) dX11_book_155 (by decide) (fun c155 => ?_) (fun c155 => ?_)
      · rw [if_pos c155] at h
        refine x_sub [2, 3] rfl ?_
        exact J162 v2 v3 v0 M145 h
      · rw [if_neg c155] at h
        refine x_iconst F (v := 1) dX11_book_158 (by decide) ?_
        refine x_goto F (tgt := 163) dX11_book_159 (by decide) ?_
        refine x_sub [2, 3] rfl ?_
        exact J163 v2 v3 1 v0 M145 h
  show X p l e ({ frames := 11, cells := 0, slots := 0, locals := 100 * 11 }) s m args below meth c (MQ below (Qm b D cy (some (.int r)) Mf) args s 0 0 (fun q => b ≤ q)) 4 b D cy 0 0 M 0 [(0, .ref (b + v0)), (1, .int v1)] []
  refine x_aload_n F dX11_book_0 rfl 0 rfl ?_
  refine x_iconst F (v := 0) dX11_book_1 (by decide) ?_
  obtain ⟨M2, c2, h⟩ := bdS h
  refine x_putI F (ci := 11) (C := RX11) (T := TX11) (N := 45) rfl ⟨by decide, rfl⟩ inU11 tyX11_ok nmX11 0 (by decide) rfl rfl wl_845 c2 dX11_book_2 ?_
  refine x_iload_n F dX11_book_5 rfl 1 rfl ?_
  refine x_iconst F (v := 0) dX11_book_6 (by decide) ?_
  refine x_iconst F (v := 1) dX11_book_7 (by decide) ?_
  obtain ⟨⟨x8, M8⟩, c8, h⟩ := bdS h
  dsimp only at h
  refine x_callS F (As := [.int v1, .int 0, .int 1]) (rest := []) (res := (some (.int x8))) (k_X11_isIn l b D cy N v1 0 1 M2 _ _ c8) wl_898 wl_899 wl_854 wl_857 (hd_X11_isIn).2 ⟨Nat.le_of_ble_eq_true rfl, Nat.le_of_ble_eq_true rfl⟩ ⟨Nat.le_refl _, Nat.le_refl _⟩ (Nat.le_of_ble_eq_true rfl) rfl dX11_book_8 ?_
  refine x_if_ne F (tgt := 18) dX11_book_11 (by decide) (fun c11 => ?_) (fun c11 => ?_)
  · rw [if_neg c11] at h
    refine x_aload_n F dX11_book_18 rfl 0 rfl ?_
    refine x_sipush F (v := 400) dX11_book_19 (by decide) ?_
    obtain ⟨k22, h⟩ := gdS h
    obtain ⟨⟨u22, M22⟩, c22, h⟩ := bdS h
    dsimp only at h
    refine x_callV F (As := [.int 400]) (rest := []) (res := none) (ci := 11) (q := (RX11, TX11, 45)) rfl (by decide) k22 (k_X11_begin l b D cy N v0 400 M8 _ _ c22) wl_987 wl_988 wl_989 wl_854 wl_911 hd_X11_begin ⟨Nat.le_of_ble_eq_true rfl, Nat.le_of_ble_eq_true rfl⟩ ⟨Nat.le_refl _, Nat.le_refl _⟩ (Nat.le_of_ble_eq_true rfl) rfl dX11_book_22 ?_
    refine x_aload_n F dX11_book_25 rfl 0 rfl ?_
    refine x_iconst F (v := 0) dX11_book_26 (by decide) ?_
    obtain ⟨M27, c27, h⟩ := bdS h
    refine x_putI F (ci := 11) (C := RX11) (T := TX11) (N := 45) rfl ⟨by decide, rfl⟩ inU11 tyX11_ok nmX11 38 (by decide) rfl rfl wl_1206 c27 dX11_book_27 ?_
    have L30 : ∀ (v0 : Nat) (v1 : Int32) (n : Nat) (M : Mem) (o : (Mem) ⊕ (Int32 × Mem)), fX11_book_L30 N v0 v1 n M = some o → (∀ (M' : Mem), o = .inl M' → X p l e ({ frames := 11, cells := 0, slots := 0, locals := 100 * 11 }) s m args below meth c (MQ below (Qm b D cy (some (.int r)) Mf) args s 0 0 (fun q => b ≤ q)) 4 b D cy 0 0 M' 65 [(0, .ref (b + v0)), (1, .int v1)] []) → (∀ (r' : Int32) (M' : Mem), o = Sum.inr (r', M') → r' = r ∧ M' = Mf) → X p l e ({ frames := 11, cells := 0, slots := 0, locals := 100 * 11 }) s m args below meth c (MQ below (Qm b D cy (some (.int r)) Mf) args s 0 0 (fun q => b ≤ q)) 4 b D cy 0 0 M 30 [(0, .ref (b + v0)), (1, .int v1)] [] := by
      intro v0 v1 n
      induction n with
      | zero => intro M o h; exact absurd h (by rw [fX11_book_L30]; exact fun z => by cases z)
      | succ n ih =>
        intro M o h hE hR
        rw [fX11_book_L30] at h
        refine x_aload_n F dX11_book_30 rfl 0 rfl ?_
        obtain ⟨x31, c31, h⟩ := bdS h
        refine x_getI F (ci := 11) (C := RX11) (T := TX11) (N := 45) rfl ⟨by decide, rfl⟩ inU11 7 (by decide) (fun _ _ _ => rfl) wl_869 c31 dX11_book_31 ?_
        refine x_if_eq F (tgt := 65) dX11_book_34 (by decide) (fun c34 => ?_) (fun c34 => ?_)
        · rw [if_pos c34] at h
          obtain rfl := Option.some.inj h
          exact hE _ rfl
        · rw [if_neg c34] at h
          refine x_aload_n F dX11_book_37 rfl 0 rfl ?_
          obtain ⟨k38, h⟩ := gdS h
          obtain ⟨⟨x38, M38⟩, c38, h⟩ := bdS h
          dsimp only at h
          refine x_callV F (As := []) (rest := []) (res := (some (.int x38))) (ci := 11) (q := (RX11, TX11, 45)) rfl (by decide) k38 (k_X11_readBookLine l b D cy N v0 M _ _ c38) wl_1214 wl_1215 wl_1216 wl_854 wl_1210 hd_X11_readBookLine ⟨Nat.le_of_ble_eq_true rfl, Nat.le_of_ble_eq_true rfl⟩ ⟨Nat.le_refl _, Nat.le_refl _⟩ (Nat.le_of_ble_eq_true rfl) rfl dX11_book_38 ?_
          refine x_if_ne F (tgt := 52) dX11_book_41 (by decide) (fun c41 => ?_) (fun c41 => ?_)
          · rw [if_neg c41] at h
            refine x_aload_n F dX11_book_52 rfl 0 rfl ?_
            refine x_dup F dX11_book_53 rfl ?_
            obtain ⟨x54, c54, h⟩ := bdS h
            refine x_getI F (ci := 11) (C := RX11) (T := TX11) (N := 45) rfl ⟨by decide, rfl⟩ inU11 38 (by decide) (fun _ _ _ => rfl) wl_1206 c54 dX11_book_54 ?_
            refine x_iconst F (v := 1) dX11_book_57 (by decide) ?_
            refine x_iadd F dX11_book_58 ?_
            obtain ⟨M59, c59, h⟩ := bdS h
            refine x_putI F (ci := 11) (C := RX11) (T := TX11) (N := 45) rfl ⟨by decide, rfl⟩ inU11 tyX11_ok nmX11 38 (by decide) rfl rfl wl_1206 c59 dX11_book_59 ?_
            refine x_goto F (tgt := 30) dX11_book_62 (by decide) ?_
            exact ih  M59 o h hE hR
          · rw [if_pos c41] at h
            refine x_bipush F (v := (-2)) dX11_book_44 (by decide) ?_
            refine x_aload_n F dX11_book_46 rfl 0 rfl ?_
            obtain ⟨x47, c47, h⟩ := bdS h
            refine x_getI F (ci := 11) (C := RX11) (T := TX11) (N := 45) rfl ⟨by decide, rfl⟩ inU11 11 (by decide) (fun _ _ _ => rfl) wl_893 c47 dX11_book_47 ?_
            refine x_isub F dX11_book_50 ?_
            obtain rfl := Option.some.inj h
            obtain ⟨rfl, rfl⟩ := hR _ _ rfl
            exact x_iret F hr hl dX11_book_51
    obtain ⟨o30, h30, h⟩ := bdS h
    refine L30 v0 v1 N M27 o30 h30 (fun M30 e => ?_) (fun r' M' e => ?_)
    · subst e
      dsimp only at h
      refine x_aload_n F dX11_book_65 rfl 0 rfl ?_
      obtain ⟨k66, h⟩ := gdS h
      obtain ⟨⟨u66, M66⟩, c66, h⟩ := bdS h
      dsimp only at h
      refine x_callV F (As := []) (rest := []) (res := none) (ci := 11) (q := (RX11, TX11, 45)) rfl (by decide) k66 (k_X11_layAside l b D cy N v0 M30 _ _ c66) wl_1186 wl_1187 wl_1188 wl_854 wl_1184 hd_X11_layAside ⟨Nat.le_of_ble_eq_true rfl, Nat.le_of_ble_eq_true rfl⟩ ⟨Nat.le_refl _, Nat.le_refl _⟩ (Nat.le_of_ble_eq_true rfl) rfl dX11_book_66 ?_
      refine x_iconst F (v := 0) dX11_book_69 (by decide) ?_
      refine x_istore_n F (lv' := [(2, .int 0), (0, .ref (b + v0)), (1, .int v1)]) dX11_book_70 rfl (by decide) rfl ?_
      refine x_iconst F (v := 0) dX11_book_71 (by decide) ?_
      refine x_istore_n F (lv' := [(3, .int 0), (2, .int 0), (0, .ref (b + v0)), (1, .int v1)]) dX11_book_72 rfl (by decide) rfl ?_
      have L73 : ∀ (v0 : Nat) (v1 : Int32) (n : Nat) (v2 : Int32) (v3 : Int32) (M : Mem) (o : Int32 × Int32 × Mem), fX11_book_L73 N v0 v1 n v2 v3 M = some o → (∀ (w2 : Int32) (w3 : Int32) (M' : Mem), o = (w2, w3, M') → X p l e ({ frames := 11, cells := 0, slots := 0, locals := 100 * 11 }) s m args below meth c (MQ below (Qm b D cy (some (.int r)) Mf) args s 0 0 (fun q => b ≤ q)) 4 b D cy 0 0 M' 103 [(0, .ref (b + v0)), (1, .int v1), (2, .int w2), (3, .int w3)] []) → X p l e ({ frames := 11, cells := 0, slots := 0, locals := 100 * 11 }) s m args below meth c (MQ below (Qm b D cy (some (.int r)) Mf) args s 0 0 (fun q => b ≤ q)) 4 b D cy 0 0 M 73 [(0, .ref (b + v0)), (1, .int v1), (2, .int v2), (3, .int v3)] [] := by
        intro v0 v1 n
        induction n with
        | zero => intro v2 v3 M o h; exact absurd h (by rw [fX11_book_L73]; exact fun z => by cases z)
        | succ n ih =>
          intro v2 v3 M o h hE
          rw [fX11_book_L73] at h
          refine x_iload_n F dX11_book_73 rfl 2 rfl ?_
          refine x_aload_n F dX11_book_74 rfl 0 rfl ?_
          obtain ⟨x75, c75, h⟩ := bdS h
          refine x_getI F (ci := 11) (C := RX11) (T := TX11) (N := 45) rfl ⟨by decide, rfl⟩ inU11 38 (by decide) (fun _ _ _ => rfl) wl_1206 c75 dX11_book_75 ?_
          refine x_icmp_ge F (tgt := 103) dX11_book_78 (by decide) (fun c78 => ?_) (fun c78 => ?_)
          · rw [if_pos c78] at h
            obtain rfl := Option.some.inj h
            exact hE _ _ _ rfl
          · rw [if_neg c78] at h
            refine x_iload_n F dX11_book_81 rfl 3 rfl ?_
            refine x_if_ne F (tgt := 103) dX11_book_82 (by decide) (fun c82 => ?_) (fun c82 => ?_)
            · rw [if_neg c82] at h
              obtain rfl := Option.some.inj h
              exact hE _ _ _ rfl
            · rw [if_pos c82] at h
              refine x_aload_n F dX11_book_85 rfl 0 rfl ?_
              refine x_iconst F (v := 5) dX11_book_86 (by decide) ?_
              refine x_iload_n F dX11_book_87 rfl 2 rfl ?_
              refine x_imul F dX11_book_88 ?_
              obtain ⟨k89, h⟩ := gdS h
              obtain ⟨⟨x89, M89⟩, c89, h⟩ := bdS h
              dsimp only at h
              refine x_callV F (As := [.int (5 * v2)]) (rest := []) (res := (some (.int x89))) (ci := 11) (q := (RX11, TX11, 45)) rfl (by decide) k89 (k_X11_goBy l b D cy N v0 (5 * v2) M _ _ c89) wl_1217 wl_1218 wl_1219 wl_854 wl_1211 hd_X11_goBy ⟨Nat.le_of_ble_eq_true rfl, Nat.le_of_ble_eq_true rfl⟩ ⟨Nat.le_refl _, Nat.le_refl _⟩ (Nat.le_of_ble_eq_true rfl) rfl dX11_book_89 ?_
              refine x_istore_n F (lv' := [(3, .int x89), (0, .ref (b + v0)), (1, .int v1), (2, .int v2)]) dX11_book_92 rfl (by decide) rfl ?_
              refine x_iload_n F dX11_book_93 rfl 0 rfl ?_
              refine x_if_ne F (tgt := 73) dX11_book_94 (by decide) (fun c94 => ?_) (fun c94 => ?_)
              · rw [if_neg c94] at h
                refine x_sub [1, 2, 3, 0] rfl ?_
                exact ih v2 x89 M89 o h hE
              · rw [if_pos c94] at h
                refine x_iinc F (v := v2 + 1) (lv' := [(2, .int (v2 + 1)), (3, .int x89), (0, .ref (b + v0)), (1, .int v1)]) dX11_book_97 3 rfl rfl (by decide) rfl ?_
                refine x_goto F (tgt := 73) dX11_book_100 (by decide) ?_
                refine x_sub [2, 3, 0, 1] rfl ?_
                exact ih (v2 + 1) x89 M89 o h hE
      obtain ⟨o73, h73, h⟩ := bdS h
      refine x_sub [2, 3, 1, 0] rfl ?_
      refine L73 v0 v1 N 0 0 M66 o73 h73 (fun w2_73 w3_73 M73 e => ?_)
      · subst e
        dsimp only at h
        exact J103 v0 v1 w2_73 w3_73 M73 h
    · subst e
      try dsimp only at h
      obtain ⟨rfl, rfl⟩ := retS h; exact ⟨rfl, rfl⟩
  · rw [if_pos c11] at h
    refine x_sipush F (v := (-1000)) dX11_book_14 (by decide) ?_
    obtain ⟨rfl, rfl⟩ := retS h
    exact x_iret F hr hl dX11_book_17
theorem dX11_told_0 : decode cX11_told 0 = .ok (.aload_n 0, 1) := by decide +kernel
theorem dX11_told_1 : decode cX11_told 1 = .ok (.iconst 0, 1) := by decide +kernel
theorem dX11_told_2 : decode cX11_told 2 = .ok (.putfield 1, 3) := by decide +kernel
theorem dX11_told_5 : decode cX11_told 5 = .ok (.aload_n 0, 1) := by decide +kernel
theorem dX11_told_6 : decode cX11_told 6 = .ok (.getfield 389, 3) := by decide +kernel
theorem dX11_told_9 : decode cX11_told 9 = .ok (.ifCond .eq 21, 3) := by decide +kernel
theorem dX11_told_12 : decode cX11_told 12 = .ok (.iload_n 1, 1) := by decide +kernel
theorem dX11_told_13 : decode cX11_told 13 = .ok (.iconst 0, 1) := by decide +kernel
theorem dX11_told_14 : decode cX11_told 14 = .ok (.iconst 3, 1) := by decide +kernel
theorem dX11_told_15 : decode cX11_told 15 = .ok (.invokestatic 75, 3) := by decide +kernel
theorem dX11_told_18 : decode cX11_told 18 = .ok (.ifCond .eq 12, 3) := by decide +kernel
theorem dX11_told_21 : decode cX11_told 21 = .ok (.aload_n 0, 1) := by decide +kernel
theorem dX11_told_22 : decode cX11_told 22 = .ok (.getfield 148, 3) := by decide +kernel
theorem dX11_told_25 : decode cX11_told 25 = .ok (.iload_n 1, 1) := by decide +kernel
theorem dX11_told_26 : decode cX11_told 26 = .ok (.iaload, 1) := by decide +kernel
theorem dX11_told_27 : decode cX11_told 27 = .ok (.goto 4, 3) := by decide +kernel
theorem dX11_told_30 : decode cX11_told 30 = .ok (.iconst (-1), 1) := by decide +kernel
theorem dX11_told_31 : decode cX11_told 31 = .ok (.ireturn, 1) := by decide +kernel
def fX11_told (N : Nat) (v0 : Nat) (v1 : Int32) (M : Mem) : Option (Int32 × Mem) := ((pI M 11 v0 0 0).bind fun M2 => ((fI M2 11 v0 39).bind fun x6 => (if x6 = 0 then some ((-1), M2) else ((fX11_isIn N v1 0 3 M2).bind fun (x15, M15) => (if x15 = 0 then some ((-1), M15) else ((fR M15 11 v0 37).bind fun x22 => ((aI M15 x22 v1).bind fun x26 => some (x26, M15))))))))
set_option maxHeartbeats 4000000 in
set_option maxRecDepth 100000 in
theorem k_X11_told (l : Launch) (b : Nat) (D : va_G) (cy : Nat → ClassId) (N : Nat) (v0 : Nat) (v1 : Int32) (M : Mem) (r : Int32) (Mf : Mem) (h : fX11_told N v0 v1 M = some (r, Mf)) : Ct l yX11_told cX11_told 2 (some .int) 2 0 0 b D cy [.ref (b + v0), .int v1] M (some (.int r)) Mf := by
  refine Ct_of (own := RX11) (by decide) rfl (Nat.le_of_ble_eq_true rfl) ?_
  intro p e s m args below meth c F hr hl hmn
  unfold fX11_told at h
  show X p l e ({ frames := 2, cells := 0, slots := 0, locals := 100 * 2 }) s m args below meth c (MQ below (Qm b D cy (some (.int r)) Mf) args s 0 0 (fun q => b ≤ q)) 2 b D cy 0 0 M 0 [(0, .ref (b + v0)), (1, .int v1)] []
  refine x_aload_n F dX11_told_0 rfl 0 rfl ?_
  refine x_iconst F (v := 0) dX11_told_1 (by decide) ?_
  obtain ⟨M2, c2, h⟩ := bdS h
  refine x_putI F (ci := 11) (C := RX11) (T := TX11) (N := 45) rfl ⟨by decide, rfl⟩ inU11 tyX11_ok nmX11 0 (by decide) rfl rfl wl_845 c2 dX11_told_2 ?_
  refine x_aload_n F dX11_told_5 rfl 0 rfl ?_
  obtain ⟨x6, c6, h⟩ := bdS h
  refine x_getI F (ci := 11) (C := RX11) (T := TX11) (N := 45) rfl ⟨by decide, rfl⟩ inU11 39 (by decide) (fun _ _ _ => rfl) wl_1213 c6 dX11_told_6 ?_
  refine x_if_eq F (tgt := 30) dX11_told_9 (by decide) (fun c9 => ?_) (fun c9 => ?_)
  · rw [if_pos c9] at h
    refine x_iconst F (v := (-1)) dX11_told_30 (by decide) ?_
    obtain ⟨rfl, rfl⟩ := retS h
    exact x_iret F hr hl dX11_told_31
  · rw [if_neg c9] at h
    refine x_iload_n F dX11_told_12 rfl 1 rfl ?_
    refine x_iconst F (v := 0) dX11_told_13 (by decide) ?_
    refine x_iconst F (v := 3) dX11_told_14 (by decide) ?_
    obtain ⟨⟨x15, M15⟩, c15, h⟩ := bdS h
    dsimp only at h
    refine x_callS F (As := [.int v1, .int 0, .int 3]) (rest := []) (res := (some (.int x15))) (k_X11_isIn l b D cy N v1 0 3 M2 _ _ c15) wl_898 wl_899 wl_854 wl_857 (hd_X11_isIn).2 ⟨Nat.le_of_ble_eq_true rfl, Nat.le_of_ble_eq_true rfl⟩ ⟨Nat.le_refl _, Nat.le_refl _⟩ (Nat.le_of_ble_eq_true rfl) rfl dX11_told_15 ?_
    refine x_if_eq F (tgt := 30) dX11_told_18 (by decide) (fun c18 => ?_) (fun c18 => ?_)
    · rw [if_pos c18] at h
      refine x_iconst F (v := (-1)) dX11_told_30 (by decide) ?_
      obtain ⟨rfl, rfl⟩ := retS h
      exact x_iret F hr hl dX11_told_31
    · rw [if_neg c18] at h
      refine x_aload_n F dX11_told_21 rfl 0 rfl ?_
      obtain ⟨x22, c22, h⟩ := bdS h
      refine x_getR F (ci := 11) (C := RX11) (T := TX11) (N := 45) rfl ⟨by decide, rfl⟩ inU11 37 (by decide) (fun _ _ _ => rfl) wl_930 c22 dX11_told_22 ?_
      refine x_iload_n F dX11_told_25 rfl 1 rfl ?_
      obtain ⟨x26, c26, h⟩ := bdS h
      refine x_aI F c26 dX11_told_26 ?_
      refine x_goto F (tgt := 31) dX11_told_27 (by decide) ?_
      obtain ⟨rfl, rfl⟩ := retS h
      exact x_iret F hr hl dX11_told_31
theorem dX11_hasHand_0 : decode cX11_hasHand 0 = .ok (.iconst 0, 1) := by decide +kernel
theorem dX11_hasHand_1 : decode cX11_hasHand 1 = .ok (.istore_n 3, 1) := by decide +kernel
theorem dX11_hasHand_2 : decode cX11_hasHand 2 = .ok (.iload_n 3, 1) := by decide +kernel
theorem dX11_hasHand_3 : decode cX11_hasHand 3 = .ok (.bipush 12, 2) := by decide +kernel
theorem dX11_hasHand_5 : decode cX11_hasHand 5 = .ok (.if_icmp .ge 29, 3) := by decide +kernel
theorem dX11_hasHand_8 : decode cX11_hasHand 8 = .ok (.aload_n 0, 1) := by decide +kernel
theorem dX11_hasHand_9 : decode cX11_hasHand 9 = .ok (.getfield 98, 3) := by decide +kernel
theorem dX11_hasHand_12 : decode cX11_hasHand 12 = .ok (.bipush 127, 2) := by decide +kernel
theorem dX11_hasHand_14 : decode cX11_hasHand 14 = .ok (.bipush 12, 2) := by decide +kernel
theorem dX11_hasHand_16 : decode cX11_hasHand 16 = .ok (.iload_n 1, 1) := by decide +kernel
theorem dX11_hasHand_17 : decode cX11_hasHand 17 = .ok (.imul, 1) := by decide +kernel
theorem dX11_hasHand_18 : decode cX11_hasHand 18 = .ok (.iadd, 1) := by decide +kernel
theorem dX11_hasHand_19 : decode cX11_hasHand 19 = .ok (.iload_n 3, 1) := by decide +kernel
theorem dX11_hasHand_20 : decode cX11_hasHand 20 = .ok (.iadd, 1) := by decide +kernel
theorem dX11_hasHand_21 : decode cX11_hasHand 21 = .ok (.iaload, 1) := by decide +kernel
theorem dX11_hasHand_22 : decode cX11_hasHand 22 = .ok (.iload_n 2, 1) := by decide +kernel
theorem dX11_hasHand_23 : decode cX11_hasHand 23 = .ok (.if_icmp .ne 5, 3) := by decide +kernel
theorem dX11_hasHand_26 : decode cX11_hasHand 26 = .ok (.iconst 1, 1) := by decide +kernel
theorem dX11_hasHand_27 : decode cX11_hasHand 27 = .ok (.ireturn, 1) := by decide +kernel
theorem dX11_hasHand_28 : decode cX11_hasHand 28 = .ok (.iinc 3 1, 3) := by decide +kernel
theorem dX11_hasHand_31 : decode cX11_hasHand 31 = .ok (.goto (-29), 3) := by decide +kernel
theorem dX11_hasHand_34 : decode cX11_hasHand 34 = .ok (.iconst 0, 1) := by decide +kernel
theorem dX11_hasHand_35 : decode cX11_hasHand 35 = .ok (.ireturn, 1) := by decide +kernel
def fX11_hasHand_L2 (N : Nat) (v0 : Nat) (v1 : Int32) (v2 : Int32) : Nat → Int32 → Mem → Option (Int32 × Mem)
  | 0, _, _ => none
  | n + 1, v3, M => (if 12 ≤ v3 then some (0, M) else ((fR M 11 v0 14).bind fun x9 => ((aI M x9 ((127 + (12 * v1)) + v3)).bind fun x21 => (if x21 = v2 then some (1, M) else fX11_hasHand_L2 N v0 v1 v2 n (v3 + 1) M))))
def fX11_hasHand (N : Nat) (v0 : Nat) (v1 : Int32) (v2 : Int32) (M : Mem) : Option (Int32 × Mem) := ((fX11_hasHand_L2 N v0 v1 v2 N 0 M).bind fun o2 => some o2)
set_option maxHeartbeats 4000000 in
set_option maxRecDepth 100000 in
theorem k_X11_hasHand (l : Launch) (b : Nat) (D : va_G) (cy : Nat → ClassId) (N : Nat) (v0 : Nat) (v1 : Int32) (v2 : Int32) (M : Mem) (r : Int32) (Mf : Mem) (h : fX11_hasHand N v0 v1 v2 M = some (r, Mf)) : Ct l yX11_hasHand cX11_hasHand 4 (some .boolean) 1 0 0 b D cy [.ref (b + v0), .int v1, .int v2] M (some (.int r)) Mf := by
  refine Ct_of (own := RX11) (by decide) rfl (Nat.le_of_ble_eq_true rfl) ?_
  intro p e s m args below meth c F hr hl hmn
  unfold fX11_hasHand at h
  show X p l e ({ frames := 1, cells := 0, slots := 0, locals := 100 * 1 }) s m args below meth c (MQ below (Qm b D cy (some (.int r)) Mf) args s 0 0 (fun q => b ≤ q)) 4 b D cy 0 0 M 0 [(0, .ref (b + v0)), (1, .int v1), (2, .int v2)] []
  refine x_iconst F (v := 0) dX11_hasHand_0 (by decide) ?_
  refine x_istore_n F (lv' := [(3, .int 0), (0, .ref (b + v0)), (1, .int v1), (2, .int v2)]) dX11_hasHand_1 rfl (by decide) rfl ?_
  have L2 : ∀ (v0 : Nat) (v1 : Int32) (v2 : Int32) (n : Nat) (v3 : Int32) (M : Mem) (o : Int32 × Mem), fX11_hasHand_L2 N v0 v1 v2 n v3 M = some o → (∀ (r' : Int32) (M' : Mem), o = (r', M') → r' = r ∧ M' = Mf) → X p l e ({ frames := 1, cells := 0, slots := 0, locals := 100 * 1 }) s m args below meth c (MQ below (Qm b D cy (some (.int r)) Mf) args s 0 0 (fun q => b ≤ q)) 4 b D cy 0 0 M 2 [(0, .ref (b + v0)), (1, .int v1), (2, .int v2), (3, .int v3)] [] := by
    intro v0 v1 v2 n
    induction n with
    | zero => intro v3 M o h; exact absurd h (by rw [fX11_hasHand_L2]; exact fun z => by cases z)
    | succ n ih =>
      intro v3 M o h hR
      rw [fX11_hasHand_L2] at h
      refine x_iload_n F dX11_hasHand_2 rfl 3 rfl ?_
      refine x_bipush F (v := 12) dX11_hasHand_3 (by decide) ?_
      refine x_icmp_ge F (tgt := 34) dX11_hasHand_5 (by decide) (fun c5 => ?_) (fun c5 => ?_)
      · rw [if_pos c5] at h
        refine x_iconst F (v := 0) dX11_hasHand_34 (by decide) ?_
        obtain rfl := Option.some.inj h
        obtain ⟨rfl, rfl⟩ := hR _ _ rfl
        exact x_zret F hr hl (by decide) dX11_hasHand_35
      · rw [if_neg c5] at h
        refine x_aload_n F dX11_hasHand_8 rfl 0 rfl ?_
        obtain ⟨x9, c9, h⟩ := bdS h
        refine x_getR F (ci := 11) (C := RX11) (T := TX11) (N := 45) rfl ⟨by decide, rfl⟩ inU11 14 (by decide) (fun _ _ _ => rfl) wl_913 c9 dX11_hasHand_9 ?_
        refine x_bipush F (v := 127) dX11_hasHand_12 (by decide) ?_
        refine x_bipush F (v := 12) dX11_hasHand_14 (by decide) ?_
        refine x_iload_n F dX11_hasHand_16 rfl 1 rfl ?_
        refine x_imul F dX11_hasHand_17 ?_
        refine x_iadd F dX11_hasHand_18 ?_
        refine x_iload_n F dX11_hasHand_19 rfl 3 rfl ?_
        refine x_iadd F dX11_hasHand_20 ?_
        obtain ⟨x21, c21, h⟩ := bdS h
        refine x_aI F c21 dX11_hasHand_21 ?_
        refine x_iload_n F dX11_hasHand_22 rfl 2 rfl ?_
        refine x_icmp_ne F (tgt := 28) dX11_hasHand_23 (by decide) (fun c23 => ?_) (fun c23 => ?_)
        · rw [if_neg c23] at h
          refine x_iinc F (v := v3 + 1) (lv' := [(3, .int (v3 + 1)), (0, .ref (b + v0)), (1, .int v1), (2, .int v2)]) dX11_hasHand_28 3 rfl rfl (by decide) rfl ?_
          refine x_goto F (tgt := 2) dX11_hasHand_31 (by decide) ?_
          refine x_sub [1, 2, 3, 0] rfl ?_
          exact ih (v3 + 1) M o h hR
        · rw [if_pos c23] at h
          refine x_iconst F (v := 1) dX11_hasHand_26 (by decide) ?_
          obtain rfl := Option.some.inj h
          obtain ⟨rfl, rfl⟩ := hR _ _ rfl
          exact x_zret F hr hl (by decide) dX11_hasHand_27
  obtain ⟨o2, h2, h⟩ := bdS h
  refine x_sub [1, 2, 3, 0] rfl ?_
  refine L2 v0 v1 v2 N 0 M o2 h2 (fun r' M' e => ?_)
  · subst e
    try dsimp only at h
    obtain ⟨rfl, rfl⟩ := retS h; exact ⟨rfl, rfl⟩
theorem dX11_saysOne_0 : decode cX11_saysOne 0 = .ok (.iconst 4, 1) := by decide +kernel
theorem dX11_saysOne_1 : decode cX11_saysOne 1 = .ok (.aload_n 0, 1) := by decide +kernel
theorem dX11_saysOne_2 : decode cX11_saysOne 2 = .ok (.getfield 396, 3) := by decide +kernel
theorem dX11_saysOne_5 : decode cX11_saysOne 5 = .ok (.imul, 1) := by decide +kernel
theorem dX11_saysOne_6 : decode cX11_saysOne 6 = .ok (.istore 5, 2) := by decide +kernel
theorem dX11_saysOne_8 : decode cX11_saysOne 8 = .ok (.aload_n 0, 1) := by decide +kernel
theorem dX11_saysOne_9 : decode cX11_saysOne 9 = .ok (.getfield 151, 3) := by decide +kernel
theorem dX11_saysOne_12 : decode cX11_saysOne 12 = .ok (.iload 5, 2) := by decide +kernel
theorem dX11_saysOne_14 : decode cX11_saysOne 14 = .ok (.iload_n 1, 1) := by decide +kernel
theorem dX11_saysOne_15 : decode cX11_saysOne 15 = .ok (.iastore, 1) := by decide +kernel
theorem dX11_saysOne_16 : decode cX11_saysOne 16 = .ok (.aload_n 0, 1) := by decide +kernel
theorem dX11_saysOne_17 : decode cX11_saysOne 17 = .ok (.getfield 151, 3) := by decide +kernel
theorem dX11_saysOne_20 : decode cX11_saysOne 20 = .ok (.iload 5, 2) := by decide +kernel
theorem dX11_saysOne_22 : decode cX11_saysOne 22 = .ok (.iconst 1, 1) := by decide +kernel
theorem dX11_saysOne_23 : decode cX11_saysOne 23 = .ok (.iadd, 1) := by decide +kernel
theorem dX11_saysOne_24 : decode cX11_saysOne 24 = .ok (.iload_n 2, 1) := by decide +kernel
theorem dX11_saysOne_25 : decode cX11_saysOne 25 = .ok (.iastore, 1) := by decide +kernel
theorem dX11_saysOne_26 : decode cX11_saysOne 26 = .ok (.aload_n 0, 1) := by decide +kernel
theorem dX11_saysOne_27 : decode cX11_saysOne 27 = .ok (.getfield 151, 3) := by decide +kernel
theorem dX11_saysOne_30 : decode cX11_saysOne 30 = .ok (.iload 5, 2) := by decide +kernel
theorem dX11_saysOne_32 : decode cX11_saysOne 32 = .ok (.iconst 2, 1) := by decide +kernel
theorem dX11_saysOne_33 : decode cX11_saysOne 33 = .ok (.iadd, 1) := by decide +kernel
theorem dX11_saysOne_34 : decode cX11_saysOne 34 = .ok (.iload_n 3, 1) := by decide +kernel
theorem dX11_saysOne_35 : decode cX11_saysOne 35 = .ok (.iastore, 1) := by decide +kernel
theorem dX11_saysOne_36 : decode cX11_saysOne 36 = .ok (.aload_n 0, 1) := by decide +kernel
theorem dX11_saysOne_37 : decode cX11_saysOne 37 = .ok (.getfield 151, 3) := by decide +kernel
theorem dX11_saysOne_40 : decode cX11_saysOne 40 = .ok (.iload 5, 2) := by decide +kernel
theorem dX11_saysOne_42 : decode cX11_saysOne 42 = .ok (.iconst 3, 1) := by decide +kernel
theorem dX11_saysOne_43 : decode cX11_saysOne 43 = .ok (.iadd, 1) := by decide +kernel
theorem dX11_saysOne_44 : decode cX11_saysOne 44 = .ok (.iload 4, 2) := by decide +kernel
theorem dX11_saysOne_46 : decode cX11_saysOne 46 = .ok (.iastore, 1) := by decide +kernel
theorem dX11_saysOne_47 : decode cX11_saysOne 47 = .ok (.aload_n 0, 1) := by decide +kernel
theorem dX11_saysOne_48 : decode cX11_saysOne 48 = .ok (.dup, 1) := by decide +kernel
theorem dX11_saysOne_49 : decode cX11_saysOne 49 = .ok (.getfield 396, 3) := by decide +kernel
theorem dX11_saysOne_52 : decode cX11_saysOne 52 = .ok (.iconst 1, 1) := by decide +kernel
theorem dX11_saysOne_53 : decode cX11_saysOne 53 = .ok (.iadd, 1) := by decide +kernel
theorem dX11_saysOne_54 : decode cX11_saysOne 54 = .ok (.putfield 396, 3) := by decide +kernel
theorem dX11_saysOne_57 : decode cX11_saysOne 57 = .ok (.aload_n 0, 1) := by decide +kernel
theorem dX11_saysOne_58 : decode cX11_saysOne 58 = .ok (.getfield 396, 3) := by decide +kernel
theorem dX11_saysOne_61 : decode cX11_saysOne 61 = .ok (.iconst 1, 1) := by decide +kernel
theorem dX11_saysOne_62 : decode cX11_saysOne 62 = .ok (.isub, 1) := by decide +kernel
theorem dX11_saysOne_63 : decode cX11_saysOne 63 = .ok (.ireturn, 1) := by decide +kernel
def fX11_saysOne (N : Nat) (v0 : Nat) (v1 : Int32) (v2 : Int32) (v3 : Int32) (v4 : Int32) (M : Mem) : Option (Int32 × Mem) := ((fI M 11 v0 41).bind fun x2 => ((fR M 11 v0 40).bind fun x9 => ((tI M x9 (4 * x2) v1).bind fun M15 => ((fR M15 11 v0 40).bind fun x17 => ((tI M15 x17 ((4 * x2) + 1) v2).bind fun M25 => ((fR M25 11 v0 40).bind fun x27 => ((tI M25 x27 ((4 * x2) + 2) v3).bind fun M35 => ((fR M35 11 v0 40).bind fun x37 => ((tI M35 x37 ((4 * x2) + 3) v4).bind fun M46 => ((fI M46 11 v0 41).bind fun x49 => ((pI M46 11 v0 41 (x49 + 1)).bind fun M54 => ((fI M54 11 v0 41).bind fun x58 => some (x58 - 1, M54)))))))))))))
set_option maxHeartbeats 4000000 in
set_option maxRecDepth 100000 in
theorem k_X11_saysOne (l : Launch) (b : Nat) (D : va_G) (cy : Nat → ClassId) (N : Nat) (v0 : Nat) (v1 : Int32) (v2 : Int32) (v3 : Int32) (v4 : Int32) (M : Mem) (r : Int32) (Mf : Mem) (h : fX11_saysOne N v0 v1 v2 v3 v4 M = some (r, Mf)) : Ct l yX11_saysOne cX11_saysOne 6 (some .int) 1 0 0 b D cy [.ref (b + v0), .int v1, .int v2, .int v3, .int v4] M (some (.int r)) Mf := by
  refine Ct_of (own := RX11) (by decide) rfl (Nat.le_of_ble_eq_true rfl) ?_
  intro p e s m args below meth c F hr hl hmn
  unfold fX11_saysOne at h
  show X p l e ({ frames := 1, cells := 0, slots := 0, locals := 100 * 1 }) s m args below meth c (MQ below (Qm b D cy (some (.int r)) Mf) args s 0 0 (fun q => b ≤ q)) 6 b D cy 0 0 M 0 [(0, .ref (b + v0)), (1, .int v1), (2, .int v2), (3, .int v3), (4, .int v4)] []
  refine x_iconst F (v := 4) dX11_saysOne_0 (by decide) ?_
  refine x_aload_n F dX11_saysOne_1 rfl 0 rfl ?_
  obtain ⟨x2, c2, h⟩ := bdS h
  refine x_getI F (ci := 11) (C := RX11) (T := TX11) (N := 45) rfl ⟨by decide, rfl⟩ inU11 41 (by decide) (fun _ _ _ => rfl) wl_1227 c2 dX11_saysOne_2 ?_
  refine x_imul F dX11_saysOne_5 ?_
  refine x_istore F (lv' := [(5, .int (4 * x2)), (0, .ref (b + v0)), (1, .int v1), (2, .int v2), (3, .int v3), (4, .int v4)]) dX11_saysOne_6 (by decide) rfl ?_
  refine x_aload_n F dX11_saysOne_8 rfl 1 rfl ?_
  obtain ⟨x9, c9, h⟩ := bdS h
  refine x_getR F (ci := 11) (C := RX11) (T := TX11) (N := 45) rfl ⟨by decide, rfl⟩ inU11 40 (by decide) (fun _ _ _ => rfl) wl_931 c9 dX11_saysOne_9 ?_
  refine x_iload F dX11_saysOne_12 0 rfl ?_
  refine x_iload_n F dX11_saysOne_14 rfl 2 rfl ?_
  obtain ⟨M15, c15, h⟩ := bdS h
  refine x_tI F c15 dX11_saysOne_15 ?_
  refine x_aload_n F dX11_saysOne_16 rfl 1 rfl ?_
  obtain ⟨x17, c17, h⟩ := bdS h
  refine x_getR F (ci := 11) (C := RX11) (T := TX11) (N := 45) rfl ⟨by decide, rfl⟩ inU11 40 (by decide) (fun _ _ _ => rfl) wl_931 c17 dX11_saysOne_17 ?_
  refine x_iload F dX11_saysOne_20 0 rfl ?_
  refine x_iconst F (v := 1) dX11_saysOne_22 (by decide) ?_
  refine x_iadd F dX11_saysOne_23 ?_
  refine x_iload_n F dX11_saysOne_24 rfl 3 rfl ?_
  obtain ⟨M25, c25, h⟩ := bdS h
  refine x_tI F c25 dX11_saysOne_25 ?_
  refine x_aload_n F dX11_saysOne_26 rfl 1 rfl ?_
  obtain ⟨x27, c27, h⟩ := bdS h
  refine x_getR F (ci := 11) (C := RX11) (T := TX11) (N := 45) rfl ⟨by decide, rfl⟩ inU11 40 (by decide) (fun _ _ _ => rfl) wl_931 c27 dX11_saysOne_27 ?_
  refine x_iload F dX11_saysOne_30 0 rfl ?_
  refine x_iconst F (v := 2) dX11_saysOne_32 (by decide) ?_
  refine x_iadd F dX11_saysOne_33 ?_
  refine x_iload_n F dX11_saysOne_34 rfl 4 rfl ?_
  obtain ⟨M35, c35, h⟩ := bdS h
  refine x_tI F c35 dX11_saysOne_35 ?_
  refine x_aload_n F dX11_saysOne_36 rfl 1 rfl ?_
  obtain ⟨x37, c37, h⟩ := bdS h
  refine x_getR F (ci := 11) (C := RX11) (T := TX11) (N := 45) rfl ⟨by decide, rfl⟩ inU11 40 (by decide) (fun _ _ _ => rfl) wl_931 c37 dX11_saysOne_37 ?_
  refine x_iload F dX11_saysOne_40 0 rfl ?_
  refine x_iconst F (v := 3) dX11_saysOne_42 (by decide) ?_
  refine x_iadd F dX11_saysOne_43 ?_
  refine x_iload F dX11_saysOne_44 5 rfl ?_
  obtain ⟨M46, c46, h⟩ := bdS h
  refine x_tI F c46 dX11_saysOne_46 ?_
  refine x_aload_n F dX11_saysOne_47 rfl 1 rfl ?_
  refine x_dup F dX11_saysOne_48 rfl ?_
  obtain ⟨x49, c49, h⟩ := bdS h
  refine x_getI F (ci := 11) (C := RX11) (T := TX11) (N := 45) rfl ⟨by decide, rfl⟩ inU11 41 (by decide) (fun _ _ _ => rfl) wl_1227 c49 dX11_saysOne_49 ?_
  refine x_iconst F (v := 1) dX11_saysOne_52 (by decide) ?_
  refine x_iadd F dX11_saysOne_53 ?_
  obtain ⟨M54, c54, h⟩ := bdS h
  refine x_putI F (ci := 11) (C := RX11) (T := TX11) (N := 45) rfl ⟨by decide, rfl⟩ inU11 tyX11_ok nmX11 41 (by decide) rfl rfl wl_1227 c54 dX11_saysOne_54 ?_
  refine x_aload_n F dX11_saysOne_57 rfl 1 rfl ?_
  obtain ⟨x58, c58, h⟩ := bdS h
  refine x_getI F (ci := 11) (C := RX11) (T := TX11) (N := 45) rfl ⟨by decide, rfl⟩ inU11 41 (by decide) (fun _ _ _ => rfl) wl_1227 c58 dX11_saysOne_58 ?_
  refine x_iconst F (v := 1) dX11_saysOne_61 (by decide) ?_
  refine x_isub F dX11_saysOne_62 ?_
  obtain ⟨rfl, rfl⟩ := retS h
  exact x_iret F hr hl dX11_saysOne_63
theorem hd_X11_saysOne : (yX11_saysOne).cls = RX11 ∧ (yX11_saysOne).cls ≠ "java/lang/invoke/MethodHandle" ∧ (yX11_saysOne).cls ≠ "java/lang/invoke/VarHandle" ∧ (parseMethodDescriptor (yX11_saysOne).desc).map (fun d => d.parameters.length) = some 4 := by decide +kernel
theorem dX11_readCompare_0 : decode cX11_readCompare 0 = .ok (.aload_n 0, 1) := by decide +kernel
theorem dX11_readCompare_1 : decode cX11_readCompare 1 = .ok (.bipush 60, 2) := by decide +kernel
theorem dX11_readCompare_3 : decode cX11_readCompare 3 = .ok (.invokevirtual 86, 3) := by decide +kernel
theorem dX11_readCompare_6 : decode cX11_readCompare 6 = .ok (.ifCond .ne 27, 3) := by decide +kernel
theorem dX11_readCompare_9 : decode cX11_readCompare 9 = .ok (.aload_n 0, 1) := by decide +kernel
theorem dX11_readCompare_10 : decode cX11_readCompare 10 = .ok (.bipush 61, 2) := by decide +kernel
theorem dX11_readCompare_12 : decode cX11_readCompare 12 = .ok (.invokevirtual 86, 3) := by decide +kernel
theorem dX11_readCompare_15 : decode cX11_readCompare 15 = .ok (.ifCond .ne 18, 3) := by decide +kernel
theorem dX11_readCompare_18 : decode cX11_readCompare 18 = .ok (.aload_n 0, 1) := by decide +kernel
theorem dX11_readCompare_19 : decode cX11_readCompare 19 = .ok (.bipush 62, 2) := by decide +kernel
theorem dX11_readCompare_21 : decode cX11_readCompare 21 = .ok (.invokevirtual 86, 3) := by decide +kernel
theorem dX11_readCompare_24 : decode cX11_readCompare 24 = .ok (.ifCond .ne 9, 3) := by decide +kernel
theorem dX11_readCompare_27 : decode cX11_readCompare 27 = .ok (.aload_n 0, 1) := by decide +kernel
theorem dX11_readCompare_28 : decode cX11_readCompare 28 = .ok (.iconst 1, 1) := by decide +kernel
theorem dX11_readCompare_29 : decode cX11_readCompare 29 = .ok (.invokevirtual 72, 3) := by decide +kernel
theorem dX11_readCompare_32 : decode cX11_readCompare 32 = .ok (.ireturn, 1) := by decide +kernel
theorem dX11_readCompare_33 : decode cX11_readCompare 33 = .ok (.aload_n 0, 1) := by decide +kernel
theorem dX11_readCompare_34 : decode cX11_readCompare 34 = .ok (.getfield 40, 3) := by decide +kernel
theorem dX11_readCompare_37 : decode cX11_readCompare 37 = .ok (.istore_n 2, 1) := by decide +kernel
theorem dX11_readCompare_38 : decode cX11_readCompare 38 = .ok (.aload_n 0, 1) := by decide +kernel
theorem dX11_readCompare_39 : decode cX11_readCompare 39 = .ok (.invokevirtual 82, 3) := by decide +kernel
theorem dX11_readCompare_42 : decode cX11_readCompare 42 = .ok (.aload_n 0, 1) := by decide +kernel
theorem dX11_readCompare_43 : decode cX11_readCompare 43 = .ok (.iconst 0, 1) := by decide +kernel
theorem dX11_readCompare_44 : decode cX11_readCompare 44 = .ok (.sipush 999, 3) := by decide +kernel
theorem dX11_readCompare_47 : decode cX11_readCompare 47 = .ok (.invokevirtual 175, 3) := by decide +kernel
theorem dX11_readCompare_50 : decode cX11_readCompare 50 = .ok (.ifCond .ne 5, 3) := by decide +kernel
theorem dX11_readCompare_53 : decode cX11_readCompare 53 = .ok (.iconst 0, 1) := by decide +kernel
theorem dX11_readCompare_54 : decode cX11_readCompare 54 = .ok (.ireturn, 1) := by decide +kernel
theorem dX11_readCompare_55 : decode cX11_readCompare 55 = .ok (.aload_n 0, 1) := by decide +kernel
theorem dX11_readCompare_56 : decode cX11_readCompare 56 = .ok (.aload_n 0, 1) := by decide +kernel
theorem dX11_readCompare_57 : decode cX11_readCompare 57 = .ok (.bipush 50, 2) := by decide +kernel
theorem dX11_readCompare_59 : decode cX11_readCompare 59 = .ok (.iload_n 1, 1) := by decide +kernel
theorem dX11_readCompare_60 : decode cX11_readCompare 60 = .ok (.iadd, 1) := by decide +kernel
theorem dX11_readCompare_61 : decode cX11_readCompare 61 = .ok (.iconst 0, 1) := by decide +kernel
theorem dX11_readCompare_62 : decode cX11_readCompare 62 = .ok (.aload_n 0, 1) := by decide +kernel
theorem dX11_readCompare_63 : decode cX11_readCompare 63 = .ok (.getfield 79, 3) := by decide +kernel
theorem dX11_readCompare_66 : decode cX11_readCompare 66 = .ok (.iload_n 2, 1) := by decide +kernel
theorem dX11_readCompare_67 : decode cX11_readCompare 67 = .ok (.invokevirtual 405, 3) := by decide +kernel
theorem dX11_readCompare_70 : decode cX11_readCompare 70 = .ok (.putfield 402, 3) := by decide +kernel
theorem dX11_readCompare_73 : decode cX11_readCompare 73 = .ok (.iconst 1, 1) := by decide +kernel
theorem dX11_readCompare_74 : decode cX11_readCompare 74 = .ok (.ireturn, 1) := by decide +kernel
def fX11_readCompare_J33 (N : Nat) (v0 : Nat) (v1 : Int32) (M : Mem) : Option (Int32 × Mem) := ((fI M 11 v0 9).bind fun x34 => (if mK M v0 = 12 then ((fX11_go N v0 M).bind fun (u39, M39) => (if mK M39 v0 = 12 then ((fX11_readNumber N v0 0 999 M39).bind fun (x47, M47) => (if x47 = 0 then some (0, M47) else ((fI M47 11 v0 13).bind fun x63 => (if mK M47 v0 = 12 then ((fX11_saysOne N v0 (50 + v1) 0 x63 x34 M47).bind fun (x67, M67) => ((pI M67 11 v0 44 x67).bind fun M70 => some (1, M70))) else none)))) else none)) else none))
def fX11_readCompare (N : Nat) (v0 : Nat) (v1 : Int32) (M : Mem) : Option (Int32 × Mem) := (if mK M v0 = 12 then ((fX11_isSign N v0 60 M).bind fun (x3, M3) => (if x3 = 0 then (if mK M3 v0 = 12 then ((fX11_isSign N v0 61 M3).bind fun (x12, M12) => (if x12 = 0 then (if mK M12 v0 = 12 then ((fX11_isSign N v0 62 M12).bind fun (x21, M21) => (if x21 = 0 then (if mK M21 v0 = 12 then ((fX11_bad N v0 1 M21).bind fun (x29, M29) => (if vp_nar .boolean x29 = x29 then some (x29, M29) else none)) else none) else fX11_readCompare_J33 N v0 v1 M21)) else none) else fX11_readCompare_J33 N v0 v1 M12)) else none) else fX11_readCompare_J33 N v0 v1 M3)) else none)
set_option maxHeartbeats 4000000 in
set_option maxRecDepth 100000 in
theorem k_X11_readCompare (l : Launch) (b : Nat) (D : va_G) (cy : Nat → ClassId) (N : Nat) (v0 : Nat) (v1 : Int32) (M : Mem) (r : Int32) (Mf : Mem) (h : fX11_readCompare N v0 v1 M = some (r, Mf)) : Ct l yX11_readCompare cX11_readCompare 3 (some .boolean) 4 0 0 b D cy [.ref (b + v0), .int v1] M (some (.int r)) Mf := by
  refine Ct_of (own := RX11) (by decide) rfl (Nat.le_of_ble_eq_true rfl) ?_
  intro p e s m args below meth c F hr hl hmn
  unfold fX11_readCompare at h
  have J33 : ∀ (v0 : Nat) (v1 : Int32) (M : Mem), fX11_readCompare_J33 N v0 v1 M = some (r, Mf) → X p l e ({ frames := 4, cells := 0, slots := 0, locals := 100 * 4 }) s m args below meth c (MQ below (Qm b D cy (some (.int r)) Mf) args s 0 0 (fun q => b ≤ q)) 3 b D cy 0 0 M 33 [(0, .ref (b + v0)), (1, .int v1)] [] := by
    intro v0 v1 M h
    unfold fX11_readCompare_J33 at h
    refine x_aload_n F dX11_readCompare_33 rfl 0 rfl ?_
    obtain ⟨x34, c34, h⟩ := bdS h
    refine x_getI F (ci := 11) (C := RX11) (T := TX11) (N := 45) rfl ⟨by decide, rfl⟩ inU11 9 (by decide) (fun _ _ _ => rfl) wl_870 c34 dX11_readCompare_34 ?_
    refine x_istore_n F (lv' := [(2, .int x34), (0, .ref (b + v0)), (1, .int v1)]) dX11_readCompare_37 rfl (by decide) rfl ?_
    refine x_aload_n F dX11_readCompare_38 rfl 1 rfl ?_
    obtain ⟨k39, h⟩ := gdS h
    obtain ⟨⟨u39, M39⟩, c39, h⟩ := bdS h
    dsimp only at h
    refine x_callV F (As := []) (rest := []) (res := none) (ci := 11) (q := (RX11, TX11, 45)) rfl (by decide) k39 (k_X11_go l b D cy N v0 M _ _ c39) wl_900 wl_901 wl_902 wl_854 wl_865 hd_X11_go ⟨Nat.le_of_ble_eq_true rfl, Nat.le_of_ble_eq_true rfl⟩ ⟨Nat.le_refl _, Nat.le_refl _⟩ (Nat.le_of_ble_eq_true rfl) rfl dX11_readCompare_39 ?_
    refine x_aload_n F dX11_readCompare_42 rfl 1 rfl ?_
    refine x_iconst F (v := 0) dX11_readCompare_43 (by decide) ?_
    refine x_sipush F (v := 999) dX11_readCompare_44 (by decide) ?_
    obtain ⟨k47, h⟩ := gdS h
    obtain ⟨⟨x47, M47⟩, c47, h⟩ := bdS h
    dsimp only at h
    refine x_callV F (As := [.int 0, .int 999]) (rest := []) (res := (some (.int x47))) (ci := 11) (q := (RX11, TX11, 45)) rfl (by decide) k47 (k_X11_readNumber l b D cy N v0 0 999 M39 _ _ c47) wl_955 wl_956 wl_957 wl_854 wl_903 hd_X11_readNumber ⟨Nat.le_of_ble_eq_true rfl, Nat.le_of_ble_eq_true rfl⟩ ⟨Nat.le_refl _, Nat.le_refl _⟩ (Nat.le_of_ble_eq_true rfl) rfl dX11_readCompare_47 ?_
    refine x_if_ne F (tgt := 55) dX11_readCompare_50 (by decide) (fun c50 => ?_) (fun c50 => ?_)
    · rw [if_neg c50] at h
      refine x_aload_n F dX11_readCompare_55 rfl 1 rfl ?_
      refine x_aload_n F dX11_readCompare_56 rfl 1 rfl ?_
      refine x_bipush F (v := 50) dX11_readCompare_57 (by decide) ?_
      refine x_iload_n F dX11_readCompare_59 rfl 2 rfl ?_
      refine x_iadd F dX11_readCompare_60 ?_
      refine x_iconst F (v := 0) dX11_readCompare_61 (by decide) ?_
      refine x_aload_n F dX11_readCompare_62 rfl 1 rfl ?_
      obtain ⟨x63, c63, h⟩ := bdS h
      refine x_getI F (ci := 11) (C := RX11) (T := TX11) (N := 45) rfl ⟨by decide, rfl⟩ inU11 13 (by decide) (fun _ _ _ => rfl) wl_894 c63 dX11_readCompare_63 ?_
      refine x_iload_n F dX11_readCompare_66 rfl 0 rfl ?_
      obtain ⟨k67, h⟩ := gdS h
      obtain ⟨⟨x67, M67⟩, c67, h⟩ := bdS h
      dsimp only at h
      refine x_callV F (As := [.int (50 + v1), .int 0, .int x63, .int x34]) (rest := [.ref (b + v0)]) (res := (some (.int x67))) (ci := 11) (q := (RX11, TX11, 45)) rfl (by decide) k67 (k_X11_saysOne l b D cy N v0 (50 + v1) 0 x63 x34 M47 _ _ c67) wl_1229 wl_1230 wl_1231 wl_854 wl_1226 hd_X11_saysOne ⟨Nat.le_of_ble_eq_true rfl, Nat.le_of_ble_eq_true rfl⟩ ⟨Nat.le_refl _, Nat.le_refl _⟩ (Nat.le_of_ble_eq_true rfl) rfl dX11_readCompare_67 ?_
      obtain ⟨M70, c70, h⟩ := bdS h
      refine x_putI F (ci := 11) (C := RX11) (T := TX11) (N := 45) rfl ⟨by decide, rfl⟩ inU11 tyX11_ok nmX11 44 (by decide) rfl rfl wl_1228 c70 dX11_readCompare_70 ?_
      refine x_iconst F (v := 1) dX11_readCompare_73 (by decide) ?_
      obtain ⟨rfl, rfl⟩ := retS h
      exact x_zret F hr hl (by decide) dX11_readCompare_74
    · rw [if_pos c50] at h
      refine x_iconst F (v := 0) dX11_readCompare_53 (by decide) ?_
      obtain ⟨rfl, rfl⟩ := retS h
      exact x_zret F hr hl (by decide) dX11_readCompare_54
  show X p l e ({ frames := 4, cells := 0, slots := 0, locals := 100 * 4 }) s m args below meth c (MQ below (Qm b D cy (some (.int r)) Mf) args s 0 0 (fun q => b ≤ q)) 3 b D cy 0 0 M 0 [(0, .ref (b + v0)), (1, .int v1)] []
  refine x_aload_n F dX11_readCompare_0 rfl 0 rfl ?_
  refine x_bipush F (v := 60) dX11_readCompare_1 (by decide) ?_
  obtain ⟨k3, h⟩ := gdS h
  obtain ⟨⟨x3, M3⟩, c3, h⟩ := bdS h
  dsimp only at h
  refine x_callV F (As := [.int 60]) (rest := []) (res := (some (.int x3))) (ci := 11) (q := (RX11, TX11, 45)) rfl (by decide) k3 (k_X11_isSign l b D cy N v0 60 M _ _ c3) wl_904 wl_905 wl_906 wl_854 wl_889 hd_X11_isSign ⟨Nat.le_of_ble_eq_true rfl, Nat.le_of_ble_eq_true rfl⟩ ⟨Nat.le_refl _, Nat.le_refl _⟩ (Nat.le_of_ble_eq_true rfl) rfl dX11_readCompare_3 ?_
  refine x_if_ne F (tgt := 33) dX11_readCompare_6 (by decide) (fun c6 => ?_) (fun c6 => ?_)
  · rw [if_neg c6] at h
    exact J33 v0 v1 M3 h
  · rw [if_pos c6] at h
    refine x_aload_n F dX11_readCompare_9 rfl 0 rfl ?_
    refine x_bipush F (v := 61) dX11_readCompare_10 (by decide) ?_
    obtain ⟨k12, h⟩ := gdS h
    obtain ⟨⟨x12, M12⟩, c12, h⟩ := bdS h
    dsimp only at h
    refine x_callV F (As := [.int 61]) (rest := []) (res := (some (.int x12))) (ci := 11) (q := (RX11, TX11, 45)) rfl (by decide) k12 (k_X11_isSign l b D cy N v0 61 M3 _ _ c12) wl_904 wl_905 wl_906 wl_854 wl_889 hd_X11_isSign ⟨Nat.le_of_ble_eq_true rfl, Nat.le_of_ble_eq_true rfl⟩ ⟨Nat.le_refl _, Nat.le_refl _⟩ (Nat.le_of_ble_eq_true rfl) rfl dX11_readCompare_12 ?_
    refine x_if_ne F (tgt := 33) dX11_readCompare_15 (by decide) (fun c15 => ?_) (fun c15 => ?_)
    · rw [if_neg c15] at h
      exact J33 v0 v1 M12 h
    · rw [if_pos c15] at h
      refine x_aload_n F dX11_readCompare_18 rfl 0 rfl ?_
      refine x_bipush F (v := 62) dX11_readCompare_19 (by decide) ?_
      obtain ⟨k21, h⟩ := gdS h
      obtain ⟨⟨x21, M21⟩, c21, h⟩ := bdS h
      dsimp only at h
      refine x_callV F (As := [.int 62]) (rest := []) (res := (some (.int x21))) (ci := 11) (q := (RX11, TX11, 45)) rfl (by decide) k21 (k_X11_isSign l b D cy N v0 62 M12 _ _ c21) wl_904 wl_905 wl_906 wl_854 wl_889 hd_X11_isSign ⟨Nat.le_of_ble_eq_true rfl, Nat.le_of_ble_eq_true rfl⟩ ⟨Nat.le_refl _, Nat.le_refl _⟩ (Nat.le_of_ble_eq_true rfl) rfl dX11_readCompare_21 ?_
      refine x_if_ne F (tgt := 33) dX11_readCompare_24 (by decide) (fun c24 => ?_) (fun c24 => ?_)
      · rw [if_neg c24] at h
        exact J33 v0 v1 M21 h
      · rw [if_pos c24] at h
        refine x_aload_n F dX11_readCompare_27 rfl 0 rfl ?_
        refine x_iconst F (v := 1) dX11_readCompare_28 (by decide) ?_
        obtain ⟨k29, h⟩ := gdS h
        obtain ⟨⟨x29, M29⟩, c29, h⟩ := bdS h
        dsimp only at h
        refine x_callV F (As := [.int 1]) (rest := []) (res := (some (.int x29))) (ci := 11) (q := (RX11, TX11, 45)) rfl (by decide) k29 (k_X11_bad l b D cy N v0 1 M21 _ _ c29) wl_895 wl_896 wl_897 wl_854 wl_891 hd_X11_bad ⟨Nat.le_of_ble_eq_true rfl, Nat.le_of_ble_eq_true rfl⟩ ⟨Nat.le_refl _, Nat.le_refl _⟩ (Nat.le_of_ble_eq_true rfl) rfl dX11_readCompare_29 ?_
        obtain ⟨c32, h⟩ := gdS h
        obtain ⟨rfl, rfl⟩ := retS h
        exact x_zret F hr hl c32 dX11_readCompare_32
theorem dX11_readOf_0 : decode cX11_readOf 0 = .ok (.aload_n 0, 1) := by decide +kernel
theorem dX11_readOf_1 : decode cX11_readOf 1 = .ok (.iload_n 1, 1) := by decide +kernel
theorem dX11_readOf_2 : decode cX11_readOf 2 = .ok (.bipush 15, 2) := by decide +kernel
theorem dX11_readOf_4 : decode cX11_readOf 4 = .ok (.if_icmp .ne 8, 3) := by decide +kernel
theorem dX11_readOf_7 : decode cX11_readOf 7 = .ok (.bipush 6, 2) := by decide +kernel
theorem dX11_readOf_9 : decode cX11_readOf 9 = .ok (.goto 5, 3) := by decide +kernel
theorem dX11_readOf_12 : decode cX11_readOf 12 = .ok (.bipush 10, 2) := by decide +kernel
theorem dX11_readOf_14 : decode cX11_readOf 14 = .ok (.aload_n 0, 1) := by decide +kernel
theorem dX11_readOf_15 : decode cX11_readOf 15 = .ok (.getfield 98, 3) := by decide +kernel
theorem dX11_readOf_18 : decode cX11_readOf 18 = .ok (.iload_n 1, 1) := by decide +kernel
theorem dX11_readOf_19 : decode cX11_readOf 19 = .ok (.bipush 15, 2) := by decide +kernel
theorem dX11_readOf_21 : decode cX11_readOf 21 = .ok (.if_icmp .ne 7, 3) := by decide +kernel
theorem dX11_readOf_24 : decode cX11_readOf 24 = .ok (.iconst 1, 1) := by decide +kernel
theorem dX11_readOf_25 : decode cX11_readOf 25 = .ok (.goto 4, 3) := by decide +kernel
theorem dX11_readOf_28 : decode cX11_readOf 28 = .ok (.iconst 2, 1) := by decide +kernel
theorem dX11_readOf_29 : decode cX11_readOf 29 = .ok (.iaload, 1) := by decide +kernel
theorem dX11_readOf_30 : decode cX11_readOf 30 = .ok (.invokevirtual 368, 3) := by decide +kernel
theorem dX11_readOf_33 : decode cX11_readOf 33 = .ok (.ifCond .ne 5, 3) := by decide +kernel
theorem dX11_readOf_36 : decode cX11_readOf 36 = .ok (.iconst 0, 1) := by decide +kernel
theorem dX11_readOf_37 : decode cX11_readOf 37 = .ok (.ireturn, 1) := by decide +kernel
theorem dX11_readOf_38 : decode cX11_readOf 38 = .ok (.aload_n 0, 1) := by decide +kernel
theorem dX11_readOf_39 : decode cX11_readOf 39 = .ok (.aload_n 0, 1) := by decide +kernel
theorem dX11_readOf_40 : decode cX11_readOf 40 = .ok (.bipush 50, 2) := by decide +kernel
theorem dX11_readOf_42 : decode cX11_readOf 42 = .ok (.iload_n 1, 1) := by decide +kernel
theorem dX11_readOf_43 : decode cX11_readOf 43 = .ok (.iadd, 1) := by decide +kernel
theorem dX11_readOf_44 : decode cX11_readOf 44 = .ok (.aload_n 0, 1) := by decide +kernel
theorem dX11_readOf_45 : decode cX11_readOf 45 = .ok (.getfield 79, 3) := by decide +kernel
theorem dX11_readOf_48 : decode cX11_readOf 48 = .ok (.iconst 0, 1) := by decide +kernel
theorem dX11_readOf_49 : decode cX11_readOf 49 = .ok (.iconst 0, 1) := by decide +kernel
theorem dX11_readOf_50 : decode cX11_readOf 50 = .ok (.invokevirtual 405, 3) := by decide +kernel
theorem dX11_readOf_53 : decode cX11_readOf 53 = .ok (.putfield 402, 3) := by decide +kernel
theorem dX11_readOf_56 : decode cX11_readOf 56 = .ok (.iconst 1, 1) := by decide +kernel
theorem dX11_readOf_57 : decode cX11_readOf 57 = .ok (.ireturn, 1) := by decide +kernel
def fX11_readOf_J29 (N : Nat) (v0 : Nat) (v1 : Int32) (s0 : Int32) (s1 : Nat) (s2 : Int32) (s3 : Nat) (M : Mem) : Option (Int32 × Mem) := ((aI M s1 s0).bind fun x29 => (if mK M s3 = 12 then ((fX11_readNamed N s3 s2 x29 M).bind fun (x30, M30) => (if x30 = 0 then some (0, M30) else ((fI M30 11 v0 13).bind fun x45 => (if mK M30 v0 = 12 then ((fX11_saysOne N v0 (50 + v1) x45 0 0 M30).bind fun (x50, M50) => ((pI M50 11 v0 44 x50).bind fun M53 => some (1, M53))) else none)))) else none))
def fX11_readOf_J14 (N : Nat) (v0 : Nat) (v1 : Int32) (s0 : Int32) (s1 : Nat) (M : Mem) : Option (Int32 × Mem) := ((fR M 11 v0 14).bind fun x15 => (if v1 = 15 then fX11_readOf_J29 N v0 v1 1 x15 s0 s1 M else fX11_readOf_J29 N v0 v1 2 x15 s0 s1 M))
def fX11_readOf (N : Nat) (v0 : Nat) (v1 : Int32) (M : Mem) : Option (Int32 × Mem) := (if v1 = 15 then fX11_readOf_J14 N v0 v1 6 v0 M else fX11_readOf_J14 N v0 v1 10 v0 M)
set_option maxHeartbeats 4000000 in
set_option maxRecDepth 100000 in
theorem k_X11_readOf (l : Launch) (b : Nat) (D : va_G) (cy : Nat → ClassId) (N : Nat) (v0 : Nat) (v1 : Int32) (M : Mem) (r : Int32) (Mf : Mem) (h : fX11_readOf N v0 v1 M = some (r, Mf)) : Ct l yX11_readOf cX11_readOf 2 (some .boolean) 5 0 0 b D cy [.ref (b + v0), .int v1] M (some (.int r)) Mf := by
  refine Ct_of (own := RX11) (by decide) rfl (Nat.le_of_ble_eq_true rfl) ?_
  intro p e s m args below meth c F hr hl hmn
  unfold fX11_readOf at h
  have J29 : ∀ (v0 : Nat) (v1 : Int32) (s0 : Int32) (s1 : Nat) (s2 : Int32) (s3 : Nat) (M : Mem), fX11_readOf_J29 N v0 v1 s0 s1 s2 s3 M = some (r, Mf) → X p l e ({ frames := 5, cells := 0, slots := 0, locals := 100 * 5 }) s m args below meth c (MQ below (Qm b D cy (some (.int r)) Mf) args s 0 0 (fun q => b ≤ q)) 2 b D cy 0 0 M 29 [(0, .ref (b + v0)), (1, .int v1)] [.int s0, .ref (b + s1), .int s2, .ref (b + s3)] := by
    intro v0 v1 s0 s1 s2 s3 M h
    unfold fX11_readOf_J29 at h
    obtain ⟨x29, c29, h⟩ := bdS h
    refine x_aI F c29 dX11_readOf_29 ?_
    obtain ⟨k30, h⟩ := gdS h
    obtain ⟨⟨x30, M30⟩, c30, h⟩ := bdS h
    dsimp only at h
    refine x_callV F (As := [.int s2, .int x29]) (rest := []) (res := (some (.int x30))) (ci := 11) (q := (RX11, TX11, 45)) rfl (by decide) k30 (k_X11_readNamed l b D cy N s3 s2 x29 M _ _ c30) wl_1195 wl_1196 wl_1197 wl_854 wl_1194 hd_X11_readNamed ⟨Nat.le_of_ble_eq_true rfl, Nat.le_of_ble_eq_true rfl⟩ ⟨Nat.le_refl _, Nat.le_refl _⟩ (Nat.le_of_ble_eq_true rfl) rfl dX11_readOf_30 ?_
    refine x_if_ne F (tgt := 38) dX11_readOf_33 (by decide) (fun c33 => ?_) (fun c33 => ?_)
    · rw [if_neg c33] at h
      refine x_aload_n F dX11_readOf_38 rfl 0 rfl ?_
      refine x_aload_n F dX11_readOf_39 rfl 0 rfl ?_
      refine x_bipush F (v := 50) dX11_readOf_40 (by decide) ?_
      refine x_iload_n F dX11_readOf_42 rfl 1 rfl ?_
      refine x_iadd F dX11_readOf_43 ?_
      refine x_aload_n F dX11_readOf_44 rfl 0 rfl ?_
      obtain ⟨x45, c45, h⟩ := bdS h
      refine x_getI F (ci := 11) (C := RX11) (T := TX11) (N := 45) rfl ⟨by decide, rfl⟩ inU11 13 (by decide) (fun _ _ _ => rfl) wl_894 c45 dX11_readOf_45 ?_
      refine x_iconst F (v := 0) dX11_readOf_48 (by decide) ?_
      refine x_iconst F (v := 0) dX11_readOf_49 (by decide) ?_
      obtain ⟨k50, h⟩ := gdS h
      obtain ⟨⟨x50, M50⟩, c50, h⟩ := bdS h
      dsimp only at h
      refine x_callV F (As := [.int (50 + v1), .int x45, .int 0, .int 0]) (rest := [.ref (b + v0)]) (res := (some (.int x50))) (ci := 11) (q := (RX11, TX11, 45)) rfl (by decide) k50 (k_X11_saysOne l b D cy N v0 (50 + v1) x45 0 0 M30 _ _ c50) wl_1229 wl_1230 wl_1231 wl_854 wl_1226 hd_X11_saysOne ⟨Nat.le_of_ble_eq_true rfl, Nat.le_of_ble_eq_true rfl⟩ ⟨Nat.le_refl _, Nat.le_refl _⟩ (Nat.le_of_ble_eq_true rfl) rfl dX11_readOf_50 ?_
      obtain ⟨M53, c53, h⟩ := bdS h
      refine x_putI F (ci := 11) (C := RX11) (T := TX11) (N := 45) rfl ⟨by decide, rfl⟩ inU11 tyX11_ok nmX11 44 (by decide) rfl rfl wl_1228 c53 dX11_readOf_53 ?_
      refine x_iconst F (v := 1) dX11_readOf_56 (by decide) ?_
      obtain ⟨rfl, rfl⟩ := retS h
      exact x_zret F hr hl (by decide) dX11_readOf_57
    · rw [if_pos c33] at h
      refine x_iconst F (v := 0) dX11_readOf_36 (by decide) ?_
      obtain ⟨rfl, rfl⟩ := retS h
      exact x_zret F hr hl (by decide) dX11_readOf_37
  have J14 : ∀ (v0 : Nat) (v1 : Int32) (s0 : Int32) (s1 : Nat) (M : Mem), fX11_readOf_J14 N v0 v1 s0 s1 M = some (r, Mf) → X p l e ({ frames := 5, cells := 0, slots := 0, locals := 100 * 5 }) s m args below meth c (MQ below (Qm b D cy (some (.int r)) Mf) args s 0 0 (fun q => b ≤ q)) 2 b D cy 0 0 M 14 [(0, .ref (b + v0)), (1, .int v1)] [.int s0, .ref (b + s1)] := by
    intro v0 v1 s0 s1 M h
    unfold fX11_readOf_J14 at h
    refine x_aload_n F dX11_readOf_14 rfl 0 rfl ?_
    obtain ⟨x15, c15, h⟩ := bdS h
    refine x_getR F (ci := 11) (C := RX11) (T := TX11) (N := 45) rfl ⟨by decide, rfl⟩ inU11 14 (by decide) (fun _ _ _ => rfl) wl_913 c15 dX11_readOf_15 ?_
    refine x_iload_n F dX11_readOf_18 rfl 1 rfl ?_
    refine x_bipush F (v := 15) dX11_readOf_19 (by decide) ?_
    refine x_icmp_ne F (tgt := 28) dX11_readOf_21 (by decide) (fun c21 => ?_) (fun c21 => ?_)
    · rw [if_neg c21] at h
      refine x_iconst F (v := 2) dX11_readOf_28 (by decide) ?_
      exact J29 v0 v1 2 x15 s0 s1 M h
    · rw [if_pos c21] at h
      refine x_iconst F (v := 1) dX11_readOf_24 (by decide) ?_
      refine x_goto F (tgt := 29) dX11_readOf_25 (by decide) ?_
      exact J29 v0 v1 1 x15 s0 s1 M h
  show X p l e ({ frames := 5, cells := 0, slots := 0, locals := 100 * 5 }) s m args below meth c (MQ below (Qm b D cy (some (.int r)) Mf) args s 0 0 (fun q => b ≤ q)) 2 b D cy 0 0 M 0 [(0, .ref (b + v0)), (1, .int v1)] []
  refine x_aload_n F dX11_readOf_0 rfl 0 rfl ?_
  refine x_iload_n F dX11_readOf_1 rfl 1 rfl ?_
  refine x_bipush F (v := 15) dX11_readOf_2 (by decide) ?_
  refine x_icmp_ne F (tgt := 12) dX11_readOf_4 (by decide) (fun c4 => ?_) (fun c4 => ?_)
  · rw [if_neg c4] at h
    refine x_bipush F (v := 10) dX11_readOf_12 (by decide) ?_
    exact J14 v0 v1 10 v0 M h
  · rw [if_pos c4] at h
    refine x_bipush F (v := 6) dX11_readOf_7 (by decide) ?_
    refine x_goto F (tgt := 14) dX11_readOf_9 (by decide) ?_
    exact J14 v0 v1 6 v0 M h
theorem hd_X11_readAnd : (yX11_readAnd).cls = RX11 ∧ (yX11_readAnd).cls ≠ "java/lang/invoke/MethodHandle" ∧ (yX11_readAnd).cls ≠ "java/lang/invoke/VarHandle" ∧ (parseMethodDescriptor (yX11_readAnd).desc).map (fun d => d.parameters.length) = some 0 := by decide +kernel
theorem dX11_readOr_0 : decode cX11_readOr 0 = .ok (.aload_n 0, 1) := by decide +kernel
theorem dX11_readOr_1 : decode cX11_readOr 1 = .ok (.invokevirtual 399, 3) := by decide +kernel
theorem dX11_readOr_4 : decode cX11_readOr 4 = .ok (.ifCond .ne 5, 3) := by decide +kernel
theorem dX11_readOr_7 : decode cX11_readOr 7 = .ok (.iconst 0, 1) := by decide +kernel
theorem dX11_readOr_8 : decode cX11_readOr 8 = .ok (.ireturn, 1) := by decide +kernel
theorem dX11_readOr_9 : decode cX11_readOr 9 = .ok (.aload_n 0, 1) := by decide +kernel
theorem dX11_readOr_10 : decode cX11_readOr 10 = .ok (.getfield 402, 3) := by decide +kernel
theorem dX11_readOr_13 : decode cX11_readOr 13 = .ok (.istore_n 1, 1) := by decide +kernel
theorem dX11_readOr_14 : decode cX11_readOr 14 = .ok (.aload_n 0, 1) := by decide +kernel
theorem dX11_readOr_15 : decode cX11_readOr 15 = .ok (.bipush 8, 2) := by decide +kernel
theorem dX11_readOr_17 : decode cX11_readOr 17 = .ok (.invokevirtual 186, 3) := by decide +kernel
theorem dX11_readOr_20 : decode cX11_readOr 20 = .ok (.ifCond .eq 31, 3) := by decide +kernel
theorem dX11_readOr_23 : decode cX11_readOr 23 = .ok (.aload_n 0, 1) := by decide +kernel
theorem dX11_readOr_24 : decode cX11_readOr 24 = .ok (.invokevirtual 82, 3) := by decide +kernel
theorem dX11_readOr_27 : decode cX11_readOr 27 = .ok (.aload_n 0, 1) := by decide +kernel
theorem dX11_readOr_28 : decode cX11_readOr 28 = .ok (.invokevirtual 399, 3) := by decide +kernel
theorem dX11_readOr_31 : decode cX11_readOr 31 = .ok (.ifCond .ne 5, 3) := by decide +kernel
theorem dX11_readOr_34 : decode cX11_readOr 34 = .ok (.iconst 0, 1) := by decide +kernel
theorem dX11_readOr_35 : decode cX11_readOr 35 = .ok (.ireturn, 1) := by decide +kernel
theorem dX11_readOr_36 : decode cX11_readOr 36 = .ok (.aload_n 0, 1) := by decide +kernel
theorem dX11_readOr_37 : decode cX11_readOr 37 = .ok (.iconst 3, 1) := by decide +kernel
theorem dX11_readOr_38 : decode cX11_readOr 38 = .ok (.iload_n 1, 1) := by decide +kernel
theorem dX11_readOr_39 : decode cX11_readOr 39 = .ok (.aload_n 0, 1) := by decide +kernel
theorem dX11_readOr_40 : decode cX11_readOr 40 = .ok (.getfield 402, 3) := by decide +kernel
theorem dX11_readOr_43 : decode cX11_readOr 43 = .ok (.iconst 0, 1) := by decide +kernel
theorem dX11_readOr_44 : decode cX11_readOr 44 = .ok (.invokevirtual 405, 3) := by decide +kernel
theorem dX11_readOr_47 : decode cX11_readOr 47 = .ok (.istore_n 1, 1) := by decide +kernel
theorem dX11_readOr_48 : decode cX11_readOr 48 = .ok (.goto (-34), 3) := by decide +kernel
theorem dX11_readOr_51 : decode cX11_readOr 51 = .ok (.aload_n 0, 1) := by decide +kernel
theorem dX11_readOr_52 : decode cX11_readOr 52 = .ok (.iload_n 1, 1) := by decide +kernel
theorem dX11_readOr_53 : decode cX11_readOr 53 = .ok (.putfield 402, 3) := by decide +kernel
theorem dX11_readOr_56 : decode cX11_readOr 56 = .ok (.iconst 1, 1) := by decide +kernel
theorem dX11_readOr_57 : decode cX11_readOr 57 = .ok (.ireturn, 1) := by decide +kernel
def fX11_readOr_L14 (N : Nat) (rf : Nat → Nat → Mem → Option (Int32 × Mem)) (v0 : Nat) : Nat → Int32 → Mem → Option ((Int32 × Mem) ⊕ (Int32 × Mem))
  | 0, _, _ => none
  | n + 1, v1, M => (if mK M v0 = 12 then ((fX11_isWord N v0 8 M).bind fun (x17, M17) => (if x17 = 0 then some (.inl (v1, M17)) else (if mK M17 v0 = 12 then ((fX11_go N v0 M17).bind fun (u24, M24) => (if mK M24 v0 = 12 then ((rf 1 v0 M24).bind fun (x28, M28) => (if x28 = 0 then some (.inr (0, M28)) else ((fI M28 11 v0 44).bind fun x40 => (if mK M28 v0 = 12 then ((fX11_saysOne N v0 3 v1 x40 0 M28).bind fun (x44, M44) => fX11_readOr_L14 N rf v0 n x44 M44) else none)))) else none)) else none))) else none)
def fX11_readOr_b (N : Nat) (rf : Nat → Nat → Mem → Option (Int32 × Mem)) (v0 : Nat) (M : Mem) : Option (Int32 × Mem) := (if mK M v0 = 12 then ((rf 1 v0 M).bind fun (x1, M1) => (if x1 = 0 then some (0, M1) else ((fI M1 11 v0 44).bind fun x10 => ((fX11_readOr_L14 N rf v0 N x10 M1).bind fun o14 => match o14 with | .inl (w1_14, M14) => ((pI M14 11 v0 44 w1_14).bind fun M53 => some (1, M53)) | .inr z => some z)))) else none)
set_option maxHeartbeats 4000000 in
set_option maxRecDepth 100000 in
theorem kb_X11_readOr (l : Launch) (b : Nat) (D : va_G) (cy : Nat → ClassId) (N n0 : Nat) (hn0 : 6 ≤ n0) (rf : Nat → Nat → Mem → Option (Int32 × Mem)) (hrf_X11_readOr : ∀ (v0 : Nat) (M : Mem) (r : Int32) (Mf : Mem), rf 0 v0 M = some (r, Mf) → Ct l yX11_readOr cX11_readOr 2 (some .boolean) n0 0 0 b D cy [.ref (b + v0)] M (some (.int r)) Mf) (hrf_X11_readAnd : ∀ (v0 : Nat) (M : Mem) (r : Int32) (Mf : Mem), rf 1 v0 M = some (r, Mf) → Ct l yX11_readAnd cX11_readAnd 2 (some .boolean) n0 0 0 b D cy [.ref (b + v0)] M (some (.int r)) Mf) (hrf_X11_readSaid : ∀ (v0 : Nat) (M : Mem) (r : Int32) (Mf : Mem), rf 2 v0 M = some (r, Mf) → Ct l yX11_readSaid cX11_readSaid 4 (some .boolean) n0 0 0 b D cy [.ref (b + v0)] M (some (.int r)) Mf) (hrf_X11_readNot : ∀ (v0 : Nat) (M : Mem) (r : Int32) (Mf : Mem), rf 3 v0 M = some (r, Mf) → Ct l yX11_readNot cX11_readNot 1 (some .boolean) n0 0 0 b D cy [.ref (b + v0)] M (some (.int r)) Mf) (hrf_X11_readBracket : ∀ (v0 : Nat) (M : Mem) (r : Int32) (Mf : Mem), rf 4 v0 M = some (r, Mf) → Ct l yX11_readBracket cX11_readBracket 1 (some .boolean) n0 0 0 b D cy [.ref (b + v0)] M (some (.int r)) Mf) (v0 : Nat) (M : Mem) (r : Int32) (Mf : Mem) (h : fX11_readOr_b N rf v0 M = some (r, Mf)) : Ct l yX11_readOr cX11_readOr 2 (some .boolean) (n0 + 1) 0 0 b D cy [.ref (b + v0)] M (some (.int r)) Mf := by
  refine Ct_of (own := RX11) (by decide) rfl (Nat.le_of_ble_eq_true rfl) ?_
  intro p e s m args below meth c F hr hl hmn
  unfold fX11_readOr_b at h
  show X p l e ({ frames := n0 + 1, cells := 0, slots := 0, locals := 100 * (n0 + 1) }) s m args below meth c (MQ below (Qm b D cy (some (.int r)) Mf) args s 0 0 (fun q => b ≤ q)) 2 b D cy 0 0 M 0 [(0, .ref (b + v0))] []
  refine x_aload_n F dX11_readOr_0 rfl 0 rfl ?_
  obtain ⟨k1, h⟩ := gdS h
  obtain ⟨⟨x1, M1⟩, c1, h⟩ := bdS h
  dsimp only at h
  refine x_callV F (As := []) (rest := []) (res := (some (.int x1))) (ci := 11) (q := (RX11, TX11, 45)) rfl (by decide) k1 (hrf_X11_readAnd v0 M _ _ c1) wl_1243 wl_1244 wl_1245 wl_854 wl_1261 hd_X11_readAnd ⟨by show n0 + 1 ≤ n0 + 1; omega, by show 8 + (2 + 11) + 100 * n0 ≤ 100 * (n0 + 1); omega⟩ ⟨Nat.le_refl _, Nat.le_refl _⟩ (Nat.le_of_ble_eq_true rfl) rfl dX11_readOr_1 ?_
  refine x_if_ne F (tgt := 9) dX11_readOr_4 (by decide) (fun c4 => ?_) (fun c4 => ?_)
  · rw [if_neg c4] at h
    refine x_aload_n F dX11_readOr_9 rfl 0 rfl ?_
    obtain ⟨x10, c10, h⟩ := bdS h
    refine x_getI F (ci := 11) (C := RX11) (T := TX11) (N := 45) rfl ⟨by decide, rfl⟩ inU11 44 (by decide) (fun _ _ _ => rfl) wl_1228 c10 dX11_readOr_10 ?_
    refine x_istore_n F (lv' := [(1, .int x10), (0, .ref (b + v0))]) dX11_readOr_13 rfl (by decide) rfl ?_
    have L14 : ∀ (v0 : Nat) (n : Nat) (v1 : Int32) (M : Mem) (o : (Int32 × Mem) ⊕ (Int32 × Mem)), fX11_readOr_L14 N rf v0 n v1 M = some o → (∀ (w1 : Int32) (M' : Mem), o = .inl (w1, M') → X p l e ({ frames := n0 + 1, cells := 0, slots := 0, locals := 100 * (n0 + 1) }) s m args below meth c (MQ below (Qm b D cy (some (.int r)) Mf) args s 0 0 (fun q => b ≤ q)) 2 b D cy 0 0 M' 51 [(0, .ref (b + v0)), (1, .int w1)] []) → (∀ (r' : Int32) (M' : Mem), o = Sum.inr (r', M') → r' = r ∧ M' = Mf) → X p l e ({ frames := n0 + 1, cells := 0, slots := 0, locals := 100 * (n0 + 1) }) s m args below meth c (MQ below (Qm b D cy (some (.int r)) Mf) args s 0 0 (fun q => b ≤ q)) 2 b D cy 0 0 M 14 [(0, .ref (b + v0)), (1, .int v1)] [] := by
      intro v0 n
      induction n with
      | zero => intro v1 M o h; exact absurd h (by rw [fX11_readOr_L14]; exact fun z => by cases z)
      | succ n ih =>
        intro v1 M o h hE hR
        rw [fX11_readOr_L14] at h
        refine x_aload_n F dX11_readOr_14 rfl 0 rfl ?_
        refine x_bipush F (v := 8) dX11_readOr_15 (by decide) ?_
        obtain ⟨k17, h⟩ := gdS h
        obtain ⟨⟨x17, M17⟩, c17, h⟩ := bdS h
        dsimp only at h
        refine x_callV F (As := [.int 8]) (rest := []) (res := (some (.int x17))) (ci := 11) (q := (RX11, TX11, 45)) rfl (by decide) k17 (k_X11_isWord l b D cy N v0 8 M _ _ c17) wl_967 wl_968 wl_969 wl_854 wl_886 hd_X11_isWord ⟨by show 3 + 1 ≤ n0 + 1; omega, by show 8 + (2 + 11) + 100 * 3 ≤ 100 * (n0 + 1); omega⟩ ⟨Nat.le_refl _, Nat.le_refl _⟩ (Nat.le_of_ble_eq_true rfl) rfl dX11_readOr_17 ?_
        refine x_if_eq F (tgt := 51) dX11_readOr_20 (by decide) (fun c20 => ?_) (fun c20 => ?_)
        · rw [if_pos c20] at h
          obtain rfl := Option.some.inj h
          exact hE _ _ rfl
        · rw [if_neg c20] at h
          refine x_aload_n F dX11_readOr_23 rfl 0 rfl ?_
          obtain ⟨k24, h⟩ := gdS h
          obtain ⟨⟨u24, M24⟩, c24, h⟩ := bdS h
          dsimp only at h
          refine x_callV F (As := []) (rest := []) (res := none) (ci := 11) (q := (RX11, TX11, 45)) rfl (by decide) k24 (k_X11_go l b D cy N v0 M17 _ _ c24) wl_900 wl_901 wl_902 wl_854 wl_865 hd_X11_go ⟨by show 2 + 1 ≤ n0 + 1; omega, by show 8 + (5 + 11) + 100 * 2 ≤ 100 * (n0 + 1); omega⟩ ⟨Nat.le_refl _, Nat.le_refl _⟩ (Nat.le_of_ble_eq_true rfl) rfl dX11_readOr_24 ?_
          refine x_aload_n F dX11_readOr_27 rfl 0 rfl ?_
          obtain ⟨k28, h⟩ := gdS h
          obtain ⟨⟨x28, M28⟩, c28, h⟩ := bdS h
          dsimp only at h
          refine x_callV F (As := []) (rest := []) (res := (some (.int x28))) (ci := 11) (q := (RX11, TX11, 45)) rfl (by decide) k28 (hrf_X11_readAnd v0 M24 _ _ c28) wl_1243 wl_1244 wl_1245 wl_854 wl_1261 hd_X11_readAnd ⟨by show n0 + 1 ≤ n0 + 1; omega, by show 8 + (2 + 11) + 100 * n0 ≤ 100 * (n0 + 1); omega⟩ ⟨Nat.le_refl _, Nat.le_refl _⟩ (Nat.le_of_ble_eq_true rfl) rfl dX11_readOr_28 ?_
          refine x_if_ne F (tgt := 36) dX11_readOr_31 (by decide) (fun c31 => ?_) (fun c31 => ?_)
          · rw [if_neg c31] at h
            refine x_aload_n F dX11_readOr_36 rfl 0 rfl ?_
            refine x_iconst F (v := 3) dX11_readOr_37 (by decide) ?_
            refine x_iload_n F dX11_readOr_38 rfl 1 rfl ?_
            refine x_aload_n F dX11_readOr_39 rfl 0 rfl ?_
            obtain ⟨x40, c40, h⟩ := bdS h
            refine x_getI F (ci := 11) (C := RX11) (T := TX11) (N := 45) rfl ⟨by decide, rfl⟩ inU11 44 (by decide) (fun _ _ _ => rfl) wl_1228 c40 dX11_readOr_40 ?_
            refine x_iconst F (v := 0) dX11_readOr_43 (by decide) ?_
            obtain ⟨k44, h⟩ := gdS h
            obtain ⟨⟨x44, M44⟩, c44, h⟩ := bdS h
            dsimp only at h
            refine x_callV F (As := [.int 3, .int v1, .int x40, .int 0]) (rest := []) (res := (some (.int x44))) (ci := 11) (q := (RX11, TX11, 45)) rfl (by decide) k44 (k_X11_saysOne l b D cy N v0 3 v1 x40 0 M28 _ _ c44) wl_1229 wl_1230 wl_1231 wl_854 wl_1226 hd_X11_saysOne ⟨by show 1 + 1 ≤ n0 + 1; omega, by show 8 + (6 + 11) + 100 * 1 ≤ 100 * (n0 + 1); omega⟩ ⟨Nat.le_refl _, Nat.le_refl _⟩ (Nat.le_of_ble_eq_true rfl) rfl dX11_readOr_44 ?_
            refine x_istore_n F (lv' := [(1, .int x44), (0, .ref (b + v0))]) dX11_readOr_47 rfl (by decide) rfl ?_
            refine x_goto F (tgt := 14) dX11_readOr_48 (by decide) ?_
            refine x_sub [1, 0] rfl ?_
            exact ih x44 M44 o h hE hR
          · rw [if_pos c31] at h
            refine x_iconst F (v := 0) dX11_readOr_34 (by decide) ?_
            obtain rfl := Option.some.inj h
            obtain ⟨rfl, rfl⟩ := hR _ _ rfl
            exact x_zret F hr hl (by decide) dX11_readOr_35
    obtain ⟨o14, h14, h⟩ := bdS h
    refine x_sub [1, 0] rfl ?_
    refine L14 v0 N x10 M1 o14 h14 (fun w1_14 M14 e => ?_) (fun r' M' e => ?_)
    · subst e
      dsimp only at h
      refine x_aload_n F dX11_readOr_51 rfl 0 rfl ?_
      refine x_iload_n F dX11_readOr_52 rfl 1 rfl ?_
      obtain ⟨M53, c53, h⟩ := bdS h
      refine x_putI F (ci := 11) (C := RX11) (T := TX11) (N := 45) rfl ⟨by decide, rfl⟩ inU11 tyX11_ok nmX11 44 (by decide) rfl rfl wl_1228 c53 dX11_readOr_53 ?_
      refine x_iconst F (v := 1) dX11_readOr_56 (by decide) ?_
      obtain ⟨rfl, rfl⟩ := retS h
      exact x_zret F hr hl (by decide) dX11_readOr_57
    · subst e
      try dsimp only at h
      obtain ⟨rfl, rfl⟩ := retS h; exact ⟨rfl, rfl⟩
  · rw [if_pos c4] at h
    refine x_iconst F (v := 0) dX11_readOr_7 (by decide) ?_
    obtain ⟨rfl, rfl⟩ := retS h
    exact x_zret F hr hl (by decide) dX11_readOr_8
theorem hd_X11_readSaid : (yX11_readSaid).cls = RX11 ∧ (yX11_readSaid).cls ≠ "java/lang/invoke/MethodHandle" ∧ (yX11_readSaid).cls ≠ "java/lang/invoke/VarHandle" ∧ (parseMethodDescriptor (yX11_readSaid).desc).map (fun d => d.parameters.length) = some 0 := by decide +kernel
theorem dX11_readAnd_0 : decode cX11_readAnd 0 = .ok (.aload_n 0, 1) := by decide +kernel
theorem dX11_readAnd_1 : decode cX11_readAnd 1 = .ok (.invokevirtual 408, 3) := by decide +kernel
theorem dX11_readAnd_4 : decode cX11_readAnd 4 = .ok (.ifCond .ne 5, 3) := by decide +kernel
theorem dX11_readAnd_7 : decode cX11_readAnd 7 = .ok (.iconst 0, 1) := by decide +kernel
theorem dX11_readAnd_8 : decode cX11_readAnd 8 = .ok (.ireturn, 1) := by decide +kernel
theorem dX11_readAnd_9 : decode cX11_readAnd 9 = .ok (.aload_n 0, 1) := by decide +kernel
theorem dX11_readAnd_10 : decode cX11_readAnd 10 = .ok (.getfield 402, 3) := by decide +kernel
theorem dX11_readAnd_13 : decode cX11_readAnd 13 = .ok (.istore_n 1, 1) := by decide +kernel
theorem dX11_readAnd_14 : decode cX11_readAnd 14 = .ok (.aload_n 0, 1) := by decide +kernel
theorem dX11_readAnd_15 : decode cX11_readAnd 15 = .ok (.bipush 9, 2) := by decide +kernel
theorem dX11_readAnd_17 : decode cX11_readAnd 17 = .ok (.invokevirtual 186, 3) := by decide +kernel
theorem dX11_readAnd_20 : decode cX11_readAnd 20 = .ok (.ifCond .eq 31, 3) := by decide +kernel
theorem dX11_readAnd_23 : decode cX11_readAnd 23 = .ok (.aload_n 0, 1) := by decide +kernel
theorem dX11_readAnd_24 : decode cX11_readAnd 24 = .ok (.invokevirtual 82, 3) := by decide +kernel
theorem dX11_readAnd_27 : decode cX11_readAnd 27 = .ok (.aload_n 0, 1) := by decide +kernel
theorem dX11_readAnd_28 : decode cX11_readAnd 28 = .ok (.invokevirtual 408, 3) := by decide +kernel
theorem dX11_readAnd_31 : decode cX11_readAnd 31 = .ok (.ifCond .ne 5, 3) := by decide +kernel
theorem dX11_readAnd_34 : decode cX11_readAnd 34 = .ok (.iconst 0, 1) := by decide +kernel
theorem dX11_readAnd_35 : decode cX11_readAnd 35 = .ok (.ireturn, 1) := by decide +kernel
theorem dX11_readAnd_36 : decode cX11_readAnd 36 = .ok (.aload_n 0, 1) := by decide +kernel
theorem dX11_readAnd_37 : decode cX11_readAnd 37 = .ok (.iconst 2, 1) := by decide +kernel
theorem dX11_readAnd_38 : decode cX11_readAnd 38 = .ok (.iload_n 1, 1) := by decide +kernel
theorem dX11_readAnd_39 : decode cX11_readAnd 39 = .ok (.aload_n 0, 1) := by decide +kernel
theorem dX11_readAnd_40 : decode cX11_readAnd 40 = .ok (.getfield 402, 3) := by decide +kernel
theorem dX11_readAnd_43 : decode cX11_readAnd 43 = .ok (.iconst 0, 1) := by decide +kernel
theorem dX11_readAnd_44 : decode cX11_readAnd 44 = .ok (.invokevirtual 405, 3) := by decide +kernel
theorem dX11_readAnd_47 : decode cX11_readAnd 47 = .ok (.istore_n 1, 1) := by decide +kernel
theorem dX11_readAnd_48 : decode cX11_readAnd 48 = .ok (.goto (-34), 3) := by decide +kernel
theorem dX11_readAnd_51 : decode cX11_readAnd 51 = .ok (.aload_n 0, 1) := by decide +kernel
theorem dX11_readAnd_52 : decode cX11_readAnd 52 = .ok (.iload_n 1, 1) := by decide +kernel
theorem dX11_readAnd_53 : decode cX11_readAnd 53 = .ok (.putfield 402, 3) := by decide +kernel
theorem dX11_readAnd_56 : decode cX11_readAnd 56 = .ok (.iconst 1, 1) := by decide +kernel
theorem dX11_readAnd_57 : decode cX11_readAnd 57 = .ok (.ireturn, 1) := by decide +kernel
def fX11_readAnd_L14 (N : Nat) (rf : Nat → Nat → Mem → Option (Int32 × Mem)) (v0 : Nat) : Nat → Int32 → Mem → Option ((Int32 × Mem) ⊕ (Int32 × Mem))
  | 0, _, _ => none
  | n + 1, v1, M => (if mK M v0 = 12 then ((fX11_isWord N v0 9 M).bind fun (x17, M17) => (if x17 = 0 then some (.inl (v1, M17)) else (if mK M17 v0 = 12 then ((fX11_go N v0 M17).bind fun (u24, M24) => (if mK M24 v0 = 12 then ((rf 2 v0 M24).bind fun (x28, M28) => (if x28 = 0 then some (.inr (0, M28)) else ((fI M28 11 v0 44).bind fun x40 => (if mK M28 v0 = 12 then ((fX11_saysOne N v0 2 v1 x40 0 M28).bind fun (x44, M44) => fX11_readAnd_L14 N rf v0 n x44 M44) else none)))) else none)) else none))) else none)
def fX11_readAnd_b (N : Nat) (rf : Nat → Nat → Mem → Option (Int32 × Mem)) (v0 : Nat) (M : Mem) : Option (Int32 × Mem) := (if mK M v0 = 12 then ((rf 2 v0 M).bind fun (x1, M1) => (if x1 = 0 then some (0, M1) else ((fI M1 11 v0 44).bind fun x10 => ((fX11_readAnd_L14 N rf v0 N x10 M1).bind fun o14 => match o14 with | .inl (w1_14, M14) => ((pI M14 11 v0 44 w1_14).bind fun M53 => some (1, M53)) | .inr z => some z)))) else none)
set_option maxHeartbeats 4000000 in
set_option maxRecDepth 100000 in
theorem kb_X11_readAnd (l : Launch) (b : Nat) (D : va_G) (cy : Nat → ClassId) (N n0 : Nat) (hn0 : 6 ≤ n0) (rf : Nat → Nat → Mem → Option (Int32 × Mem)) (hrf_X11_readOr : ∀ (v0 : Nat) (M : Mem) (r : Int32) (Mf : Mem), rf 0 v0 M = some (r, Mf) → Ct l yX11_readOr cX11_readOr 2 (some .boolean) n0 0 0 b D cy [.ref (b + v0)] M (some (.int r)) Mf) (hrf_X11_readAnd : ∀ (v0 : Nat) (M : Mem) (r : Int32) (Mf : Mem), rf 1 v0 M = some (r, Mf) → Ct l yX11_readAnd cX11_readAnd 2 (some .boolean) n0 0 0 b D cy [.ref (b + v0)] M (some (.int r)) Mf) (hrf_X11_readSaid : ∀ (v0 : Nat) (M : Mem) (r : Int32) (Mf : Mem), rf 2 v0 M = some (r, Mf) → Ct l yX11_readSaid cX11_readSaid 4 (some .boolean) n0 0 0 b D cy [.ref (b + v0)] M (some (.int r)) Mf) (hrf_X11_readNot : ∀ (v0 : Nat) (M : Mem) (r : Int32) (Mf : Mem), rf 3 v0 M = some (r, Mf) → Ct l yX11_readNot cX11_readNot 1 (some .boolean) n0 0 0 b D cy [.ref (b + v0)] M (some (.int r)) Mf) (hrf_X11_readBracket : ∀ (v0 : Nat) (M : Mem) (r : Int32) (Mf : Mem), rf 4 v0 M = some (r, Mf) → Ct l yX11_readBracket cX11_readBracket 1 (some .boolean) n0 0 0 b D cy [.ref (b + v0)] M (some (.int r)) Mf) (v0 : Nat) (M : Mem) (r : Int32) (Mf : Mem) (h : fX11_readAnd_b N rf v0 M = some (r, Mf)) : Ct l yX11_readAnd cX11_readAnd 2 (some .boolean) (n0 + 1) 0 0 b D cy [.ref (b + v0)] M (some (.int r)) Mf := by
  refine Ct_of (own := RX11) (by decide) rfl (Nat.le_of_ble_eq_true rfl) ?_
  intro p e s m args below meth c F hr hl hmn
  unfold fX11_readAnd_b at h
  show X p l e ({ frames := n0 + 1, cells := 0, slots := 0, locals := 100 * (n0 + 1) }) s m args below meth c (MQ below (Qm b D cy (some (.int r)) Mf) args s 0 0 (fun q => b ≤ q)) 2 b D cy 0 0 M 0 [(0, .ref (b + v0))] []
  refine x_aload_n F dX11_readAnd_0 rfl 0 rfl ?_
  obtain ⟨k1, h⟩ := gdS h
  obtain ⟨⟨x1, M1⟩, c1, h⟩ := bdS h
  dsimp only at h
  refine x_callV F (As := []) (rest := []) (res := (some (.int x1))) (ci := 11) (q := (RX11, TX11, 45)) rfl (by decide) k1 (hrf_X11_readSaid v0 M _ _ c1) wl_1234 wl_1235 wl_1236 wl_854 wl_1246 hd_X11_readSaid ⟨by show n0 + 1 ≤ n0 + 1; omega, by show 8 + (4 + 11) + 100 * n0 ≤ 100 * (n0 + 1); omega⟩ ⟨Nat.le_refl _, Nat.le_refl _⟩ (Nat.le_of_ble_eq_true rfl) rfl dX11_readAnd_1 ?_
  refine x_if_ne F (tgt := 9) dX11_readAnd_4 (by decide) (fun c4 => ?_) (fun c4 => ?_)
  · rw [if_neg c4] at h
    refine x_aload_n F dX11_readAnd_9 rfl 0 rfl ?_
    obtain ⟨x10, c10, h⟩ := bdS h
    refine x_getI F (ci := 11) (C := RX11) (T := TX11) (N := 45) rfl ⟨by decide, rfl⟩ inU11 44 (by decide) (fun _ _ _ => rfl) wl_1228 c10 dX11_readAnd_10 ?_
    refine x_istore_n F (lv' := [(1, .int x10), (0, .ref (b + v0))]) dX11_readAnd_13 rfl (by decide) rfl ?_
    have L14 : ∀ (v0 : Nat) (n : Nat) (v1 : Int32) (M : Mem) (o : (Int32 × Mem) ⊕ (Int32 × Mem)), fX11_readAnd_L14 N rf v0 n v1 M = some o → (∀ (w1 : Int32) (M' : Mem), o = .inl (w1, M') → X p l e ({ frames := n0 + 1, cells := 0, slots := 0, locals := 100 * (n0 + 1) }) s m args below meth c (MQ below (Qm b D cy (some (.int r)) Mf) args s 0 0 (fun q => b ≤ q)) 2 b D cy 0 0 M' 51 [(0, .ref (b + v0)), (1, .int w1)] []) → (∀ (r' : Int32) (M' : Mem), o = Sum.inr (r', M') → r' = r ∧ M' = Mf) → X p l e ({ frames := n0 + 1, cells := 0, slots := 0, locals := 100 * (n0 + 1) }) s m args below meth c (MQ below (Qm b D cy (some (.int r)) Mf) args s 0 0 (fun q => b ≤ q)) 2 b D cy 0 0 M 14 [(0, .ref (b + v0)), (1, .int v1)] [] := by
      intro v0 n
      induction n with
      | zero => intro v1 M o h; exact absurd h (by rw [fX11_readAnd_L14]; exact fun z => by cases z)
      | succ n ih =>
        intro v1 M o h hE hR
        rw [fX11_readAnd_L14] at h
        refine x_aload_n F dX11_readAnd_14 rfl 0 rfl ?_
        refine x_bipush F (v := 9) dX11_readAnd_15 (by decide) ?_
        obtain ⟨k17, h⟩ := gdS h
        obtain ⟨⟨x17, M17⟩, c17, h⟩ := bdS h
        dsimp only at h
        refine x_callV F (As := [.int 9]) (rest := []) (res := (some (.int x17))) (ci := 11) (q := (RX11, TX11, 45)) rfl (by decide) k17 (k_X11_isWord l b D cy N v0 9 M _ _ c17) wl_967 wl_968 wl_969 wl_854 wl_886 hd_X11_isWord ⟨by show 3 + 1 ≤ n0 + 1; omega, by show 8 + (2 + 11) + 100 * 3 ≤ 100 * (n0 + 1); omega⟩ ⟨Nat.le_refl _, Nat.le_refl _⟩ (Nat.le_of_ble_eq_true rfl) rfl dX11_readAnd_17 ?_
        refine x_if_eq F (tgt := 51) dX11_readAnd_20 (by decide) (fun c20 => ?_) (fun c20 => ?_)
        · rw [if_pos c20] at h
          obtain rfl := Option.some.inj h
          exact hE _ _ rfl
        · rw [if_neg c20] at h
          refine x_aload_n F dX11_readAnd_23 rfl 0 rfl ?_
          obtain ⟨k24, h⟩ := gdS h
          obtain ⟨⟨u24, M24⟩, c24, h⟩ := bdS h
          dsimp only at h
          refine x_callV F (As := []) (rest := []) (res := none) (ci := 11) (q := (RX11, TX11, 45)) rfl (by decide) k24 (k_X11_go l b D cy N v0 M17 _ _ c24) wl_900 wl_901 wl_902 wl_854 wl_865 hd_X11_go ⟨by show 2 + 1 ≤ n0 + 1; omega, by show 8 + (5 + 11) + 100 * 2 ≤ 100 * (n0 + 1); omega⟩ ⟨Nat.le_refl _, Nat.le_refl _⟩ (Nat.le_of_ble_eq_true rfl) rfl dX11_readAnd_24 ?_
          refine x_aload_n F dX11_readAnd_27 rfl 0 rfl ?_
          obtain ⟨k28, h⟩ := gdS h
          obtain ⟨⟨x28, M28⟩, c28, h⟩ := bdS h
          dsimp only at h
          refine x_callV F (As := []) (rest := []) (res := (some (.int x28))) (ci := 11) (q := (RX11, TX11, 45)) rfl (by decide) k28 (hrf_X11_readSaid v0 M24 _ _ c28) wl_1234 wl_1235 wl_1236 wl_854 wl_1246 hd_X11_readSaid ⟨by show n0 + 1 ≤ n0 + 1; omega, by show 8 + (4 + 11) + 100 * n0 ≤ 100 * (n0 + 1); omega⟩ ⟨Nat.le_refl _, Nat.le_refl _⟩ (Nat.le_of_ble_eq_true rfl) rfl dX11_readAnd_28 ?_
          refine x_if_ne F (tgt := 36) dX11_readAnd_31 (by decide) (fun c31 => ?_) (fun c31 => ?_)
          · rw [if_neg c31] at h
            refine x_aload_n F dX11_readAnd_36 rfl 0 rfl ?_
            refine x_iconst F (v := 2) dX11_readAnd_37 (by decide) ?_
            refine x_iload_n F dX11_readAnd_38 rfl 1 rfl ?_
            refine x_aload_n F dX11_readAnd_39 rfl 0 rfl ?_
            obtain ⟨x40, c40, h⟩ := bdS h
            refine x_getI F (ci := 11) (C := RX11) (T := TX11) (N := 45) rfl ⟨by decide, rfl⟩ inU11 44 (by decide) (fun _ _ _ => rfl) wl_1228 c40 dX11_readAnd_40 ?_
            refine x_iconst F (v := 0) dX11_readAnd_43 (by decide) ?_
            obtain ⟨k44, h⟩ := gdS h
            obtain ⟨⟨x44, M44⟩, c44, h⟩ := bdS h
            dsimp only at h
            refine x_callV F (As := [.int 2, .int v1, .int x40, .int 0]) (rest := []) (res := (some (.int x44))) (ci := 11) (q := (RX11, TX11, 45)) rfl (by decide) k44 (k_X11_saysOne l b D cy N v0 2 v1 x40 0 M28 _ _ c44) wl_1229 wl_1230 wl_1231 wl_854 wl_1226 hd_X11_saysOne ⟨by show 1 + 1 ≤ n0 + 1; omega, by show 8 + (6 + 11) + 100 * 1 ≤ 100 * (n0 + 1); omega⟩ ⟨Nat.le_refl _, Nat.le_refl _⟩ (Nat.le_of_ble_eq_true rfl) rfl dX11_readAnd_44 ?_
            refine x_istore_n F (lv' := [(1, .int x44), (0, .ref (b + v0))]) dX11_readAnd_47 rfl (by decide) rfl ?_
            refine x_goto F (tgt := 14) dX11_readAnd_48 (by decide) ?_
            refine x_sub [1, 0] rfl ?_
            exact ih x44 M44 o h hE hR
          · rw [if_pos c31] at h
            refine x_iconst F (v := 0) dX11_readAnd_34 (by decide) ?_
            obtain rfl := Option.some.inj h
            obtain ⟨rfl, rfl⟩ := hR _ _ rfl
            exact x_zret F hr hl (by decide) dX11_readAnd_35
    obtain ⟨o14, h14, h⟩ := bdS h
    refine x_sub [1, 0] rfl ?_
    refine L14 v0 N x10 M1 o14 h14 (fun w1_14 M14 e => ?_) (fun r' M' e => ?_)
    · subst e
      dsimp only at h
      refine x_aload_n F dX11_readAnd_51 rfl 0 rfl ?_
      refine x_iload_n F dX11_readAnd_52 rfl 1 rfl ?_
      obtain ⟨M53, c53, h⟩ := bdS h
      refine x_putI F (ci := 11) (C := RX11) (T := TX11) (N := 45) rfl ⟨by decide, rfl⟩ inU11 tyX11_ok nmX11 44 (by decide) rfl rfl wl_1228 c53 dX11_readAnd_53 ?_
      refine x_iconst F (v := 1) dX11_readAnd_56 (by decide) ?_
      obtain ⟨rfl, rfl⟩ := retS h
      exact x_zret F hr hl (by decide) dX11_readAnd_57
    · subst e
      try dsimp only at h
      obtain ⟨rfl, rfl⟩ := retS h; exact ⟨rfl, rfl⟩
  · rw [if_pos c4] at h
    refine x_iconst F (v := 0) dX11_readAnd_7 (by decide) ?_
    obtain ⟨rfl, rfl⟩ := retS h
    exact x_zret F hr hl (by decide) dX11_readAnd_8
theorem hd_X11_readCompare : (yX11_readCompare).cls = RX11 ∧ (yX11_readCompare).cls ≠ "java/lang/invoke/MethodHandle" ∧ (yX11_readCompare).cls ≠ "java/lang/invoke/VarHandle" ∧ (parseMethodDescriptor (yX11_readCompare).desc).map (fun d => d.parameters.length) = some 1 := by decide +kernel
theorem hd_X11_readOf : (yX11_readOf).cls = RX11 ∧ (yX11_readOf).cls ≠ "java/lang/invoke/MethodHandle" ∧ (yX11_readOf).cls ≠ "java/lang/invoke/VarHandle" ∧ (parseMethodDescriptor (yX11_readOf).desc).map (fun d => d.parameters.length) = some 1 := by decide +kernel
theorem hd_X11_readNot : (yX11_readNot).cls = RX11 ∧ (yX11_readNot).cls ≠ "java/lang/invoke/MethodHandle" ∧ (yX11_readNot).cls ≠ "java/lang/invoke/VarHandle" ∧ (parseMethodDescriptor (yX11_readNot).desc).map (fun d => d.parameters.length) = some 0 := by decide +kernel
theorem hd_X11_readBracket : (yX11_readBracket).cls = RX11 ∧ (yX11_readBracket).cls ≠ "java/lang/invoke/MethodHandle" ∧ (yX11_readBracket).cls ≠ "java/lang/invoke/VarHandle" ∧ (parseMethodDescriptor (yX11_readBracket).desc).map (fun d => d.parameters.length) = some 0 := by decide +kernel
theorem dX11_readSaid_0 : decode cX11_readSaid 0 = .ok (.aload_n 0, 1) := by decide +kernel
theorem dX11_readSaid_1 : decode cX11_readSaid 1 = .ok (.bipush 40, 2) := by decide +kernel
theorem dX11_readSaid_3 : decode cX11_readSaid 3 = .ok (.invokevirtual 86, 3) := by decide +kernel
theorem dX11_readSaid_6 : decode cX11_readSaid 6 = .ok (.istore_n 1, 1) := by decide +kernel
theorem dX11_readSaid_7 : decode cX11_readSaid 7 = .ok (.bipush 10, 2) := by decide +kernel
theorem dX11_readSaid_9 : decode cX11_readSaid 9 = .ok (.istore_n 2, 1) := by decide +kernel
theorem dX11_readSaid_10 : decode cX11_readSaid 10 = .ok (.iload_n 2, 1) := by decide +kernel
theorem dX11_readSaid_11 : decode cX11_readSaid 11 = .ok (.bipush 19, 2) := by decide +kernel
theorem dX11_readSaid_13 : decode cX11_readSaid 13 = .ok (.if_icmp .gt 17, 3) := by decide +kernel
theorem dX11_readSaid_16 : decode cX11_readSaid 16 = .ok (.aload_n 0, 1) := by decide +kernel
theorem dX11_readSaid_17 : decode cX11_readSaid 17 = .ok (.iload_n 2, 1) := by decide +kernel
theorem dX11_readSaid_18 : decode cX11_readSaid 18 = .ok (.invokevirtual 186, 3) := by decide +kernel
theorem dX11_readSaid_21 : decode cX11_readSaid 21 = .ok (.ifCond .ne 9, 3) := by decide +kernel
theorem dX11_readSaid_24 : decode cX11_readSaid 24 = .ok (.iinc 2 1, 3) := by decide +kernel
theorem dX11_readSaid_27 : decode cX11_readSaid 27 = .ok (.goto (-17), 3) := by decide +kernel
theorem dX11_readSaid_30 : decode cX11_readSaid 30 = .ok (.iload_n 1, 1) := by decide +kernel
theorem dX11_readSaid_31 : decode cX11_readSaid 31 = .ok (.ifCond .ne 15, 3) := by decide +kernel
theorem dX11_readSaid_34 : decode cX11_readSaid 34 = .ok (.iload_n 2, 1) := by decide +kernel
theorem dX11_readSaid_35 : decode cX11_readSaid 35 = .ok (.bipush 19, 2) := by decide +kernel
theorem dX11_readSaid_37 : decode cX11_readSaid 37 = .ok (.if_icmp .le 9, 3) := by decide +kernel
theorem dX11_readSaid_40 : decode cX11_readSaid 40 = .ok (.aload_n 0, 1) := by decide +kernel
theorem dX11_readSaid_41 : decode cX11_readSaid 41 = .ok (.iconst 1, 1) := by decide +kernel
theorem dX11_readSaid_42 : decode cX11_readSaid 42 = .ok (.invokevirtual 72, 3) := by decide +kernel
theorem dX11_readSaid_45 : decode cX11_readSaid 45 = .ok (.ireturn, 1) := by decide +kernel
theorem dX11_readSaid_46 : decode cX11_readSaid 46 = .ok (.aload_n 0, 1) := by decide +kernel
theorem dX11_readSaid_47 : decode cX11_readSaid 47 = .ok (.getfield 411, 3) := by decide +kernel
theorem dX11_readSaid_50 : decode cX11_readSaid 50 = .ok (.bipush 20, 2) := by decide +kernel
theorem dX11_readSaid_52 : decode cX11_readSaid 52 = .ok (.if_icmp .eq 12, 3) := by decide +kernel
theorem dX11_readSaid_55 : decode cX11_readSaid 55 = .ok (.aload_n 0, 1) := by decide +kernel
theorem dX11_readSaid_56 : decode cX11_readSaid 56 = .ok (.getfield 414, 3) := by decide +kernel
theorem dX11_readSaid_59 : decode cX11_readSaid 59 = .ok (.bipush 8, 2) := by decide +kernel
theorem dX11_readSaid_61 : decode cX11_readSaid 61 = .ok (.if_icmp .ne 9, 3) := by decide +kernel
theorem dX11_readSaid_64 : decode cX11_readSaid 64 = .ok (.aload_n 0, 1) := by decide +kernel
theorem dX11_readSaid_65 : decode cX11_readSaid 65 = .ok (.iconst 4, 1) := by decide +kernel
theorem dX11_readSaid_66 : decode cX11_readSaid 66 = .ok (.invokevirtual 72, 3) := by decide +kernel
theorem dX11_readSaid_69 : decode cX11_readSaid 69 = .ok (.ireturn, 1) := by decide +kernel
theorem dX11_readSaid_70 : decode cX11_readSaid 70 = .ok (.aload_n 0, 1) := by decide +kernel
theorem dX11_readSaid_71 : decode cX11_readSaid 71 = .ok (.dup, 1) := by decide +kernel
theorem dX11_readSaid_72 : decode cX11_readSaid 72 = .ok (.getfield 411, 3) := by decide +kernel
theorem dX11_readSaid_75 : decode cX11_readSaid 75 = .ok (.iconst 1, 1) := by decide +kernel
theorem dX11_readSaid_76 : decode cX11_readSaid 76 = .ok (.iadd, 1) := by decide +kernel
theorem dX11_readSaid_77 : decode cX11_readSaid 77 = .ok (.putfield 411, 3) := by decide +kernel
theorem dX11_readSaid_80 : decode cX11_readSaid 80 = .ok (.aload_n 0, 1) := by decide +kernel
theorem dX11_readSaid_81 : decode cX11_readSaid 81 = .ok (.dup, 1) := by decide +kernel
theorem dX11_readSaid_82 : decode cX11_readSaid 82 = .ok (.getfield 414, 3) := by decide +kernel
theorem dX11_readSaid_85 : decode cX11_readSaid 85 = .ok (.iconst 1, 1) := by decide +kernel
theorem dX11_readSaid_86 : decode cX11_readSaid 86 = .ok (.iadd, 1) := by decide +kernel
theorem dX11_readSaid_87 : decode cX11_readSaid 87 = .ok (.putfield 414, 3) := by decide +kernel
theorem dX11_readSaid_90 : decode cX11_readSaid 90 = .ok (.aload_n 0, 1) := by decide +kernel
theorem dX11_readSaid_91 : decode cX11_readSaid 91 = .ok (.invokevirtual 82, 3) := by decide +kernel
theorem dX11_readSaid_94 : decode cX11_readSaid 94 = .ok (.iconst 1, 1) := by decide +kernel
theorem dX11_readSaid_95 : decode cX11_readSaid 95 = .ok (.istore_n 3, 1) := by decide +kernel
theorem dX11_readSaid_96 : decode cX11_readSaid 96 = .ok (.iload_n 1, 1) := by decide +kernel
theorem dX11_readSaid_97 : decode cX11_readSaid 97 = .ok (.ifCond .eq 11, 3) := by decide +kernel
theorem dX11_readSaid_100 : decode cX11_readSaid 100 = .ok (.aload_n 0, 1) := by decide +kernel
theorem dX11_readSaid_101 : decode cX11_readSaid 101 = .ok (.invokevirtual 417, 3) := by decide +kernel
theorem dX11_readSaid_104 : decode cX11_readSaid 104 = .ok (.istore_n 3, 1) := by decide +kernel
theorem dX11_readSaid_105 : decode cX11_readSaid 105 = .ok (.goto 61, 3) := by decide +kernel
theorem dX11_readSaid_108 : decode cX11_readSaid 108 = .ok (.iload_n 2, 1) := by decide +kernel
theorem dX11_readSaid_109 : decode cX11_readSaid 109 = .ok (.bipush 10, 2) := by decide +kernel
theorem dX11_readSaid_111 : decode cX11_readSaid 111 = .ok (.if_icmp .ne 11, 3) := by decide +kernel
theorem dX11_readSaid_114 : decode cX11_readSaid 114 = .ok (.aload_n 0, 1) := by decide +kernel
theorem dX11_readSaid_115 : decode cX11_readSaid 115 = .ok (.invokevirtual 420, 3) := by decide +kernel
theorem dX11_readSaid_118 : decode cX11_readSaid 118 = .ok (.istore_n 3, 1) := by decide +kernel
theorem dX11_readSaid_119 : decode cX11_readSaid 119 = .ok (.goto 47, 3) := by decide +kernel
theorem dX11_readSaid_122 : decode cX11_readSaid 122 = .ok (.iload_n 2, 1) := by decide +kernel
theorem dX11_readSaid_123 : decode cX11_readSaid 123 = .ok (.bipush 14, 2) := by decide +kernel
theorem dX11_readSaid_125 : decode cX11_readSaid 125 = .ok (.if_icmp .ge 21, 3) := by decide +kernel
theorem dX11_readSaid_128 : decode cX11_readSaid 128 = .ok (.aload_n 0, 1) := by decide +kernel
theorem dX11_readSaid_129 : decode cX11_readSaid 129 = .ok (.aload_n 0, 1) := by decide +kernel
theorem dX11_readSaid_130 : decode cX11_readSaid 130 = .ok (.bipush 50, 2) := by decide +kernel
theorem dX11_readSaid_132 : decode cX11_readSaid 132 = .ok (.iload_n 2, 1) := by decide +kernel
theorem dX11_readSaid_133 : decode cX11_readSaid 133 = .ok (.iadd, 1) := by decide +kernel
theorem dX11_readSaid_134 : decode cX11_readSaid 134 = .ok (.iconst 0, 1) := by decide +kernel
theorem dX11_readSaid_135 : decode cX11_readSaid 135 = .ok (.iconst 0, 1) := by decide +kernel
theorem dX11_readSaid_136 : decode cX11_readSaid 136 = .ok (.iconst 0, 1) := by decide +kernel
theorem dX11_readSaid_137 : decode cX11_readSaid 137 = .ok (.invokevirtual 405, 3) := by decide +kernel
theorem dX11_readSaid_140 : decode cX11_readSaid 140 = .ok (.putfield 402, 3) := by decide +kernel
theorem dX11_readSaid_143 : decode cX11_readSaid 143 = .ok (.goto 23, 3) := by decide +kernel
theorem dX11_readSaid_146 : decode cX11_readSaid 146 = .ok (.iload_n 2, 1) := by decide +kernel
theorem dX11_readSaid_147 : decode cX11_readSaid 147 = .ok (.bipush 16, 2) := by decide +kernel
theorem dX11_readSaid_149 : decode cX11_readSaid 149 = .ok (.if_icmp .ge 11, 3) := by decide +kernel
theorem dX11_readSaid_152 : decode cX11_readSaid 152 = .ok (.aload_n 0, 1) := by decide +kernel
theorem dX11_readSaid_153 : decode cX11_readSaid 153 = .ok (.iload_n 2, 1) := by decide +kernel
theorem dX11_readSaid_154 : decode cX11_readSaid 154 = .ok (.invokevirtual 423, 3) := by decide +kernel
theorem dX11_readSaid_157 : decode cX11_readSaid 157 = .ok (.goto 8, 3) := by decide +kernel
theorem dX11_readSaid_160 : decode cX11_readSaid 160 = .ok (.aload_n 0, 1) := by decide +kernel
theorem dX11_readSaid_161 : decode cX11_readSaid 161 = .ok (.iload_n 2, 1) := by decide +kernel
theorem dX11_readSaid_162 : decode cX11_readSaid 162 = .ok (.invokevirtual 426, 3) := by decide +kernel
theorem dX11_readSaid_165 : decode cX11_readSaid 165 = .ok (.istore_n 3, 1) := by decide +kernel
theorem dX11_readSaid_166 : decode cX11_readSaid 166 = .ok (.aload_n 0, 1) := by decide +kernel
theorem dX11_readSaid_167 : decode cX11_readSaid 167 = .ok (.dup, 1) := by decide +kernel
theorem dX11_readSaid_168 : decode cX11_readSaid 168 = .ok (.getfield 414, 3) := by decide +kernel
theorem dX11_readSaid_171 : decode cX11_readSaid 171 = .ok (.iconst 1, 1) := by decide +kernel
theorem dX11_readSaid_172 : decode cX11_readSaid 172 = .ok (.isub, 1) := by decide +kernel
theorem dX11_readSaid_173 : decode cX11_readSaid 173 = .ok (.putfield 414, 3) := by decide +kernel
theorem dX11_readSaid_176 : decode cX11_readSaid 176 = .ok (.iload_n 3, 1) := by decide +kernel
theorem dX11_readSaid_177 : decode cX11_readSaid 177 = .ok (.ireturn, 1) := by decide +kernel
def fX11_readSaid_J166 (N : Nat) (rf : Nat → Nat → Mem → Option (Int32 × Mem)) (v0 : Nat) (v3 : Int32) (M : Mem) : Option (Int32 × Mem) := ((fI M 11 v0 43).bind fun x168 => ((pI M 11 v0 43 (x168 - 1)).bind fun M173 => (if vp_nar .boolean v3 = v3 then some (v3, M173) else none)))
def fX11_readSaid_J165 (N : Nat) (rf : Nat → Nat → Mem → Option (Int32 × Mem)) (v0 : Nat) (s0 : Int32) (M : Mem) : Option (Int32 × Mem) := fX11_readSaid_J166 N rf v0 s0 M
def fX11_readSaid_J46 (N : Nat) (rf : Nat → Nat → Mem → Option (Int32 × Mem)) (v0 : Nat) (v1 : Int32) (v2 : Int32) (M : Mem) : Option (Int32 × Mem) := ((fI M 11 v0 42).bind fun x47 => (if x47 = 20 then (if mK M v0 = 12 then ((fX11_bad N v0 4 M).bind fun (x66, M66) => (if vp_nar .boolean x66 = x66 then some (x66, M66) else none)) else none) else ((fI M 11 v0 43).bind fun x56 => (if x56 = 8 then (if mK M v0 = 12 then ((fX11_bad N v0 4 M).bind fun (x66, M66) => (if vp_nar .boolean x66 = x66 then some (x66, M66) else none)) else none) else ((fI M 11 v0 42).bind fun x72 => ((pI M 11 v0 42 (x72 + 1)).bind fun M77 => ((fI M77 11 v0 43).bind fun x82 => ((pI M77 11 v0 43 (x82 + 1)).bind fun M87 => (if mK M87 v0 = 12 then ((fX11_go N v0 M87).bind fun (u91, M91) => (if v1 = 0 then (if v2 = 10 then (if mK M91 v0 = 12 then ((rf 3 v0 M91).bind fun (x115, M115) => fX11_readSaid_J166 N rf v0 x115 M115) else none) else (if 14 ≤ v2 then (if 16 ≤ v2 then (if mK M91 v0 = 12 then ((fX11_readCompare N v0 v2 M91).bind fun (x162, M162) => fX11_readSaid_J165 N rf v0 x162 M162) else none) else (if mK M91 v0 = 12 then ((fX11_readOf N v0 v2 M91).bind fun (x154, M154) => fX11_readSaid_J165 N rf v0 x154 M154) else none)) else (if mK M91 v0 = 12 then ((fX11_saysOne N v0 (50 + v2) 0 0 0 M91).bind fun (x137, M137) => ((pI M137 11 v0 44 x137).bind fun M140 => fX11_readSaid_J166 N rf v0 1 M140)) else none))) else (if mK M91 v0 = 12 then ((rf 4 v0 M91).bind fun (x101, M101) => fX11_readSaid_J166 N rf v0 x101 M101) else none))) else none)))))))))
def fX11_readSaid_J30 (N : Nat) (rf : Nat → Nat → Mem → Option (Int32 × Mem)) (v0 : Nat) (v1 : Int32) (v2 : Int32) (M : Mem) : Option (Int32 × Mem) := (if v1 = 0 then (if v2 ≤ 19 then fX11_readSaid_J46 N rf v0 v1 v2 M else (if mK M v0 = 12 then ((fX11_bad N v0 1 M).bind fun (x42, M42) => (if vp_nar .boolean x42 = x42 then some (x42, M42) else none)) else none)) else fX11_readSaid_J46 N rf v0 v1 v2 M)
def fX11_readSaid_L10 (N : Nat) (rf : Nat → Nat → Mem → Option (Int32 × Mem)) (v0 : Nat) (v1 : Int32) : Nat → Int32 → Mem → Option (Int32 × Mem)
  | 0, _, _ => none
  | n + 1, v2, M => (if 19 < v2 then some (v2, M) else (if mK M v0 = 12 then ((fX11_isWord N v0 v2 M).bind fun (x18, M18) => (if x18 = 0 then fX11_readSaid_L10 N rf v0 v1 n (v2 + 1) M18 else some (v2, M18))) else none))
def fX11_readSaid_b (N : Nat) (rf : Nat → Nat → Mem → Option (Int32 × Mem)) (v0 : Nat) (M : Mem) : Option (Int32 × Mem) := (if mK M v0 = 12 then ((fX11_isSign N v0 40 M).bind fun (x3, M3) => ((fX11_readSaid_L10 N rf v0 x3 N 10 M3).bind fun o10 => match o10 with | (w2_10, M10) => fX11_readSaid_J30 N rf v0 x3 w2_10 M10)) else none)
set_option maxHeartbeats 4000000 in
set_option maxRecDepth 100000 in
theorem kb_X11_readSaid (l : Launch) (b : Nat) (D : va_G) (cy : Nat → ClassId) (N n0 : Nat) (hn0 : 6 ≤ n0) (rf : Nat → Nat → Mem → Option (Int32 × Mem)) (hrf_X11_readOr : ∀ (v0 : Nat) (M : Mem) (r : Int32) (Mf : Mem), rf 0 v0 M = some (r, Mf) → Ct l yX11_readOr cX11_readOr 2 (some .boolean) n0 0 0 b D cy [.ref (b + v0)] M (some (.int r)) Mf) (hrf_X11_readAnd : ∀ (v0 : Nat) (M : Mem) (r : Int32) (Mf : Mem), rf 1 v0 M = some (r, Mf) → Ct l yX11_readAnd cX11_readAnd 2 (some .boolean) n0 0 0 b D cy [.ref (b + v0)] M (some (.int r)) Mf) (hrf_X11_readSaid : ∀ (v0 : Nat) (M : Mem) (r : Int32) (Mf : Mem), rf 2 v0 M = some (r, Mf) → Ct l yX11_readSaid cX11_readSaid 4 (some .boolean) n0 0 0 b D cy [.ref (b + v0)] M (some (.int r)) Mf) (hrf_X11_readNot : ∀ (v0 : Nat) (M : Mem) (r : Int32) (Mf : Mem), rf 3 v0 M = some (r, Mf) → Ct l yX11_readNot cX11_readNot 1 (some .boolean) n0 0 0 b D cy [.ref (b + v0)] M (some (.int r)) Mf) (hrf_X11_readBracket : ∀ (v0 : Nat) (M : Mem) (r : Int32) (Mf : Mem), rf 4 v0 M = some (r, Mf) → Ct l yX11_readBracket cX11_readBracket 1 (some .boolean) n0 0 0 b D cy [.ref (b + v0)] M (some (.int r)) Mf) (v0 : Nat) (M : Mem) (r : Int32) (Mf : Mem) (h : fX11_readSaid_b N rf v0 M = some (r, Mf)) : Ct l yX11_readSaid cX11_readSaid 4 (some .boolean) (n0 + 1) 0 0 b D cy [.ref (b + v0)] M (some (.int r)) Mf := by
  refine Ct_of (own := RX11) (by decide) rfl (Nat.le_of_ble_eq_true rfl) ?_
  intro p e s m args below meth c F hr hl hmn
  unfold fX11_readSaid_b at h
  have J166 : ∀ (v0 : Nat) (v3 : Int32) (M : Mem), fX11_readSaid_J166 N rf v0 v3 M = some (r, Mf) → X p l e ({ frames := n0 + 1, cells := 0, slots := 0, locals := 100 * (n0 + 1) }) s m args below meth c (MQ below (Qm b D cy (some (.int r)) Mf) args s 0 0 (fun q => b ≤ q)) 4 b D cy 0 0 M 166 [(0, .ref (b + v0)), (3, .int v3)] [] := by
    intro v0 v3 M h
    unfold fX11_readSaid_J166 at h
    refine x_aload_n F dX11_readSaid_166 rfl 0 rfl ?_
    refine x_dup F dX11_readSaid_167 rfl ?_
    obtain ⟨x168, c168, h⟩ := bdS h
    refine x_getI F (ci := 11) (C := RX11) (T := TX11) (N := 45) rfl ⟨by decide, rfl⟩ inU11 43 (by decide) (fun _ _ _ => rfl) wl_1248 c168 dX11_readSaid_168 ?_
    refine x_iconst F (v := 1) dX11_readSaid_171 (by decide) ?_
    refine x_isub F dX11_readSaid_172 ?_
    obtain ⟨M173, c173, h⟩ := bdS h
    refine x_putI F (ci := 11) (C := RX11) (T := TX11) (N := 45) rfl ⟨by decide, rfl⟩ inU11 tyX11_ok nmX11 43 (by decide) rfl rfl wl_1248 c173 dX11_readSaid_173 ?_
    refine x_iload_n F dX11_readSaid_176 rfl 1 rfl ?_
    obtain ⟨c177, h⟩ := gdS h
    obtain ⟨rfl, rfl⟩ := retS h
    exact x_zret F hr hl c177 dX11_readSaid_177
  have J165 : ∀ (v0 : Nat) (s0 : Int32) (M : Mem), fX11_readSaid_J165 N rf v0 s0 M = some (r, Mf) → X p l e ({ frames := n0 + 1, cells := 0, slots := 0, locals := 100 * (n0 + 1) }) s m args below meth c (MQ below (Qm b D cy (some (.int r)) Mf) args s 0 0 (fun q => b ≤ q)) 4 b D cy 0 0 M 165 [(0, .ref (b + v0))] [.int s0] := by
    intro v0 s0 M h
    unfold fX11_readSaid_J165 at h
    refine x_istore_n F (lv' := [(3, .int s0), (0, .ref (b + v0))]) dX11_readSaid_165 rfl (by decide) rfl ?_
    refine x_sub [1, 0] rfl ?_
    exact J166 v0 s0 M h
  have J46 : ∀ (v0 : Nat) (v1 : Int32) (v2 : Int32) (M : Mem), fX11_readSaid_J46 N rf v0 v1 v2 M = some (r, Mf) → X p l e ({ frames := n0 + 1, cells := 0, slots := 0, locals := 100 * (n0 + 1) }) s m args below meth c (MQ below (Qm b D cy (some (.int r)) Mf) args s 0 0 (fun q => b ≤ q)) 4 b D cy 0 0 M 46 [(0, .ref (b + v0)), (1, .int v1), (2, .int v2)] [] := by
    intro v0 v1 v2 M h
    unfold fX11_readSaid_J46 at h
    refine x_aload_n F dX11_readSaid_46 rfl 0 rfl ?_
    obtain ⟨x47, c47, h⟩ := bdS h
    refine x_getI F (ci := 11) (C := RX11) (T := TX11) (N := 45) rfl ⟨by decide, rfl⟩ inU11 42 (by decide) (fun _ _ _ => rfl) wl_1247 c47 dX11_readSaid_47 ?_
    refine x_bipush F (v := 20) dX11_readSaid_50 (by decide) ?_
    refine x_icmp_eq F (tgt := 64) dX11_readSaid_52 (by decide) (fun c52 => ?_) (fun c52 => ?_)
    · rw [if_pos c52] at h
      refine x_aload_n F dX11_readSaid_64 rfl 0 rfl ?_
      refine x_iconst F (v := 4) dX11_readSaid_65 (by decide) ?_
      obtain ⟨k66, h⟩ := gdS h
      obtain ⟨⟨x66, M66⟩, c66, h⟩ := bdS h
      dsimp only at h
      refine x_callV F (As := [.int 4]) (rest := []) (res := (some (.int x66))) (ci := 11) (q := (RX11, TX11, 45)) rfl (by decide) k66 (k_X11_bad l b D cy N v0 4 M _ _ c66) wl_895 wl_896 wl_897 wl_854 wl_891 hd_X11_bad ⟨by show 1 + 1 ≤ n0 + 1; omega, by show 8 + (2 + 11) + 100 * 1 ≤ 100 * (n0 + 1); omega⟩ ⟨Nat.le_refl _, Nat.le_refl _⟩ (Nat.le_of_ble_eq_true rfl) rfl dX11_readSaid_66 ?_
      obtain ⟨c69, h⟩ := gdS h
      obtain ⟨rfl, rfl⟩ := retS h
      exact x_zret F hr hl c69 dX11_readSaid_69
    · rw [if_neg c52] at h
      refine x_aload_n F dX11_readSaid_55 rfl 0 rfl ?_
      obtain ⟨x56, c56, h⟩ := bdS h
      refine x_getI F (ci := 11) (C := RX11) (T := TX11) (N := 45) rfl ⟨by decide, rfl⟩ inU11 43 (by decide) (fun _ _ _ => rfl) wl_1248 c56 dX11_readSaid_56 ?_
      refine x_bipush F (v := 8) dX11_readSaid_59 (by decide) ?_
      refine x_icmp_ne F (tgt := 70) dX11_readSaid_61 (by decide) (fun c61 => ?_) (fun c61 => ?_)
      · rw [if_neg c61] at h
        refine x_aload_n F dX11_readSaid_70 rfl 0 rfl ?_
        refine x_dup F dX11_readSaid_71 rfl ?_
        obtain ⟨x72, c72, h⟩ := bdS h
        refine x_getI F (ci := 11) (C := RX11) (T := TX11) (N := 45) rfl ⟨by decide, rfl⟩ inU11 42 (by decide) (fun _ _ _ => rfl) wl_1247 c72 dX11_readSaid_72 ?_
        refine x_iconst F (v := 1) dX11_readSaid_75 (by decide) ?_
        refine x_iadd F dX11_readSaid_76 ?_
        obtain ⟨M77, c77, h⟩ := bdS h
        refine x_putI F (ci := 11) (C := RX11) (T := TX11) (N := 45) rfl ⟨by decide, rfl⟩ inU11 tyX11_ok nmX11 42 (by decide) rfl rfl wl_1247 c77 dX11_readSaid_77 ?_
        refine x_aload_n F dX11_readSaid_80 rfl 0 rfl ?_
        refine x_dup F dX11_readSaid_81 rfl ?_
        obtain ⟨x82, c82, h⟩ := bdS h
        refine x_getI F (ci := 11) (C := RX11) (T := TX11) (N := 45) rfl ⟨by decide, rfl⟩ inU11 43 (by decide) (fun _ _ _ => rfl) wl_1248 c82 dX11_readSaid_82 ?_
        refine x_iconst F (v := 1) dX11_readSaid_85 (by decide) ?_
        refine x_iadd F dX11_readSaid_86 ?_
        obtain ⟨M87, c87, h⟩ := bdS h
        refine x_putI F (ci := 11) (C := RX11) (T := TX11) (N := 45) rfl ⟨by decide, rfl⟩ inU11 tyX11_ok nmX11 43 (by decide) rfl rfl wl_1248 c87 dX11_readSaid_87 ?_
        refine x_aload_n F dX11_readSaid_90 rfl 0 rfl ?_
        obtain ⟨k91, h⟩ := gdS h
        obtain ⟨⟨u91, M91⟩, c91, h⟩ := bdS h
        dsimp only at h
        refine x_callV F (As := []) (rest := []) (res := none) (ci := 11) (q := (RX11, TX11, 45)) rfl (by decide) k91 (k_X11_go l b D cy N v0 M87 _ _ c91) wl_900 wl_901 wl_902 wl_854 wl_865 hd_X11_go ⟨by show 2 + 1 ≤ n0 + 1; omega, by show 8 + (5 + 11) + 100 * 2 ≤ 100 * (n0 + 1); omega⟩ ⟨Nat.le_refl _, Nat.le_refl _⟩ (Nat.le_of_ble_eq_true rfl) rfl dX11_readSaid_91 ?_
        refine x_iconst F (v := 1) dX11_readSaid_94 (by decide) ?_
        refine x_istore_n F (lv' := [(3, .int 1), (0, .ref (b + v0)), (1, .int v1), (2, .int v2)]) dX11_readSaid_95 rfl (by decide) rfl ?_
        refine x_iload_n F dX11_readSaid_96 rfl 2 rfl ?_
        refine x_if_eq F (tgt := 108) dX11_readSaid_97 (by decide) (fun c97 => ?_) (fun c97 => ?_)
        · rw [if_pos c97] at h
          refine x_iload_n F dX11_readSaid_108 rfl 3 rfl ?_
          refine x_bipush F (v := 10) dX11_readSaid_109 (by decide) ?_
          refine x_icmp_ne F (tgt := 122) dX11_readSaid_111 (by decide) (fun c111 => ?_) (fun c111 => ?_)
          · rw [if_neg c111] at h
            refine x_iload_n F dX11_readSaid_122 rfl 3 rfl ?_
            refine x_bipush F (v := 14) dX11_readSaid_123 (by decide) ?_
            refine x_icmp_ge F (tgt := 146) dX11_readSaid_125 (by decide) (fun c125 => ?_) (fun c125 => ?_)
            · rw [if_pos c125] at h
              refine x_iload_n F dX11_readSaid_146 rfl 3 rfl ?_
              refine x_bipush F (v := 16) dX11_readSaid_147 (by decide) ?_
              refine x_icmp_ge F (tgt := 160) dX11_readSaid_149 (by decide) (fun c149 => ?_) (fun c149 => ?_)
              · rw [if_pos c149] at h
                refine x_aload_n F dX11_readSaid_160 rfl 1 rfl ?_
                refine x_iload_n F dX11_readSaid_161 rfl 3 rfl ?_
                obtain ⟨k162, h⟩ := gdS h
                obtain ⟨⟨x162, M162⟩, c162, h⟩ := bdS h
                dsimp only at h
                refine x_callV F (As := [.int v2]) (rest := []) (res := (some (.int x162))) (ci := 11) (q := (RX11, TX11, 45)) rfl (by decide) k162 (k_X11_readCompare l b D cy N v0 v2 M91 _ _ c162) wl_1258 wl_1259 wl_1260 wl_854 wl_1233 hd_X11_readCompare ⟨by show 4 + 1 ≤ n0 + 1; omega, by show 8 + (3 + 11) + 100 * 4 ≤ 100 * (n0 + 1); omega⟩ ⟨Nat.le_refl _, Nat.le_refl _⟩ (Nat.le_of_ble_eq_true rfl) rfl dX11_readSaid_162 ?_
                refine x_sub [1] rfl ?_
                exact J165 v0 x162 M162 h
              · rw [if_neg c149] at h
                refine x_aload_n F dX11_readSaid_152 rfl 1 rfl ?_
                refine x_iload_n F dX11_readSaid_153 rfl 3 rfl ?_
                obtain ⟨k154, h⟩ := gdS h
                obtain ⟨⟨x154, M154⟩, c154, h⟩ := bdS h
                dsimp only at h
                refine x_callV F (As := [.int v2]) (rest := []) (res := (some (.int x154))) (ci := 11) (q := (RX11, TX11, 45)) rfl (by decide) k154 (k_X11_readOf l b D cy N v0 v2 M91 _ _ c154) wl_1255 wl_1256 wl_1257 wl_854 wl_1232 hd_X11_readOf ⟨by show 5 + 1 ≤ n0 + 1; omega, by show 8 + (2 + 11) + 100 * 5 ≤ 100 * (n0 + 1); omega⟩ ⟨Nat.le_refl _, Nat.le_refl _⟩ (Nat.le_of_ble_eq_true rfl) rfl dX11_readSaid_154 ?_
                refine x_goto F (tgt := 165) dX11_readSaid_157 (by decide) ?_
                refine x_sub [1] rfl ?_
                exact J165 v0 x154 M154 h
            · rw [if_neg c125] at h
              refine x_aload_n F dX11_readSaid_128 rfl 1 rfl ?_
              refine x_aload_n F dX11_readSaid_129 rfl 1 rfl ?_
              refine x_bipush F (v := 50) dX11_readSaid_130 (by decide) ?_
              refine x_iload_n F dX11_readSaid_132 rfl 3 rfl ?_
              refine x_iadd F dX11_readSaid_133 ?_
              refine x_iconst F (v := 0) dX11_readSaid_134 (by decide) ?_
              refine x_iconst F (v := 0) dX11_readSaid_135 (by decide) ?_
              refine x_iconst F (v := 0) dX11_readSaid_136 (by decide) ?_
              obtain ⟨k137, h⟩ := gdS h
              obtain ⟨⟨x137, M137⟩, c137, h⟩ := bdS h
              dsimp only at h
              refine x_callV F (As := [.int (50 + v2), .int 0, .int 0, .int 0]) (rest := [.ref (b + v0)]) (res := (some (.int x137))) (ci := 11) (q := (RX11, TX11, 45)) rfl (by decide) k137 (k_X11_saysOne l b D cy N v0 (50 + v2) 0 0 0 M91 _ _ c137) wl_1229 wl_1230 wl_1231 wl_854 wl_1226 hd_X11_saysOne ⟨by show 1 + 1 ≤ n0 + 1; omega, by show 8 + (6 + 11) + 100 * 1 ≤ 100 * (n0 + 1); omega⟩ ⟨Nat.le_refl _, Nat.le_refl _⟩ (Nat.le_of_ble_eq_true rfl) rfl dX11_readSaid_137 ?_
              obtain ⟨M140, c140, h⟩ := bdS h
              refine x_putI F (ci := 11) (C := RX11) (T := TX11) (N := 45) rfl ⟨by decide, rfl⟩ inU11 tyX11_ok nmX11 44 (by decide) rfl rfl wl_1228 c140 dX11_readSaid_140 ?_
              refine x_goto F (tgt := 166) dX11_readSaid_143 (by decide) ?_
              refine x_sub [1, 0] rfl ?_
              exact J166 v0 1 M140 h
          · rw [if_pos c111] at h
            refine x_aload_n F dX11_readSaid_114 rfl 1 rfl ?_
            obtain ⟨k115, h⟩ := gdS h
            obtain ⟨⟨x115, M115⟩, c115, h⟩ := bdS h
            dsimp only at h
            refine x_callV F (As := []) (rest := []) (res := (some (.int x115))) (ci := 11) (q := (RX11, TX11, 45)) rfl (by decide) k115 (hrf_X11_readNot v0 M91 _ _ c115) wl_1252 wl_1253 wl_1254 wl_854 wl_1241 hd_X11_readNot ⟨by show n0 + 1 ≤ n0 + 1; omega, by show 8 + (1 + 11) + 100 * n0 ≤ 100 * (n0 + 1); omega⟩ ⟨Nat.le_refl _, Nat.le_refl _⟩ (Nat.le_of_ble_eq_true rfl) rfl dX11_readSaid_115 ?_
            refine x_istore_n F (lv' := [(3, .int x115), (0, .ref (b + v0)), (1, .int v1), (2, .int v2)]) dX11_readSaid_118 rfl (by decide) rfl ?_
            refine x_goto F (tgt := 166) dX11_readSaid_119 (by decide) ?_
            refine x_sub [1, 0] rfl ?_
            exact J166 v0 x115 M115 h
        · rw [if_neg c97] at h
          refine x_aload_n F dX11_readSaid_100 rfl 1 rfl ?_
          obtain ⟨k101, h⟩ := gdS h
          obtain ⟨⟨x101, M101⟩, c101, h⟩ := bdS h
          dsimp only at h
          refine x_callV F (As := []) (rest := []) (res := (some (.int x101))) (ci := 11) (q := (RX11, TX11, 45)) rfl (by decide) k101 (hrf_X11_readBracket v0 M91 _ _ c101) wl_1249 wl_1250 wl_1251 wl_854 wl_1237 hd_X11_readBracket ⟨by show n0 + 1 ≤ n0 + 1; omega, by show 8 + (1 + 11) + 100 * n0 ≤ 100 * (n0 + 1); omega⟩ ⟨Nat.le_refl _, Nat.le_refl _⟩ (Nat.le_of_ble_eq_true rfl) rfl dX11_readSaid_101 ?_
          refine x_istore_n F (lv' := [(3, .int x101), (0, .ref (b + v0)), (1, .int v1), (2, .int v2)]) dX11_readSaid_104 rfl (by decide) rfl ?_
          refine x_goto F (tgt := 166) dX11_readSaid_105 (by decide) ?_
          refine x_sub [1, 0] rfl ?_
          exact J166 v0 x101 M101 h
      · rw [if_pos c61] at h
        refine x_aload_n F dX11_readSaid_64 rfl 0 rfl ?_
        refine x_iconst F (v := 4) dX11_readSaid_65 (by decide) ?_
        obtain ⟨k66, h⟩ := gdS h
        obtain ⟨⟨x66, M66⟩, c66, h⟩ := bdS h
        dsimp only at h
        refine x_callV F (As := [.int 4]) (rest := []) (res := (some (.int x66))) (ci := 11) (q := (RX11, TX11, 45)) rfl (by decide) k66 (k_X11_bad l b D cy N v0 4 M _ _ c66) wl_895 wl_896 wl_897 wl_854 wl_891 hd_X11_bad ⟨by show 1 + 1 ≤ n0 + 1; omega, by show 8 + (2 + 11) + 100 * 1 ≤ 100 * (n0 + 1); omega⟩ ⟨Nat.le_refl _, Nat.le_refl _⟩ (Nat.le_of_ble_eq_true rfl) rfl dX11_readSaid_66 ?_
        obtain ⟨c69, h⟩ := gdS h
        obtain ⟨rfl, rfl⟩ := retS h
        exact x_zret F hr hl c69 dX11_readSaid_69
  have J30 : ∀ (v0 : Nat) (v1 : Int32) (v2 : Int32) (M : Mem), fX11_readSaid_J30 N rf v0 v1 v2 M = some (r, Mf) → X p l e ({ frames := n0 + 1, cells := 0, slots := 0, locals := 100 * (n0 + 1) }) s m args below meth c (MQ below (Qm b D cy (some (.int r)) Mf) args s 0 0 (fun q => b ≤ q)) 4 b D cy 0 0 M 30 [(0, .ref (b + v0)), (1, .int v1), (2, .int v2)] [] := by
    intro v0 v1 v2 M h
    unfold fX11_readSaid_J30 at h
    refine x_iload_n F dX11_readSaid_30 rfl 1 rfl ?_
    refine x_if_ne F (tgt := 46) dX11_readSaid_31 (by decide) (fun c31 => ?_) (fun c31 => ?_)
    · rw [if_neg c31] at h
      exact J46 v0 v1 v2 M h
    · rw [if_pos c31] at h
      refine x_iload_n F dX11_readSaid_34 rfl 2 rfl ?_
      refine x_bipush F (v := 19) dX11_readSaid_35 (by decide) ?_
      refine x_icmp_le F (tgt := 46) dX11_readSaid_37 (by decide) (fun c37 => ?_) (fun c37 => ?_)
      · rw [if_pos c37] at h
        exact J46 v0 v1 v2 M h
      · rw [if_neg c37] at h
        refine x_aload_n F dX11_readSaid_40 rfl 0 rfl ?_
        refine x_iconst F (v := 1) dX11_readSaid_41 (by decide) ?_
        obtain ⟨k42, h⟩ := gdS h
        obtain ⟨⟨x42, M42⟩, c42, h⟩ := bdS h
        dsimp only at h
        refine x_callV F (As := [.int 1]) (rest := []) (res := (some (.int x42))) (ci := 11) (q := (RX11, TX11, 45)) rfl (by decide) k42 (k_X11_bad l b D cy N v0 1 M _ _ c42) wl_895 wl_896 wl_897 wl_854 wl_891 hd_X11_bad ⟨by show 1 + 1 ≤ n0 + 1; omega, by show 8 + (2 + 11) + 100 * 1 ≤ 100 * (n0 + 1); omega⟩ ⟨Nat.le_refl _, Nat.le_refl _⟩ (Nat.le_of_ble_eq_true rfl) rfl dX11_readSaid_42 ?_
        obtain ⟨c45, h⟩ := gdS h
        obtain ⟨rfl, rfl⟩ := retS h
        exact x_zret F hr hl c45 dX11_readSaid_45
  show X p l e ({ frames := n0 + 1, cells := 0, slots := 0, locals := 100 * (n0 + 1) }) s m args below meth c (MQ below (Qm b D cy (some (.int r)) Mf) args s 0 0 (fun q => b ≤ q)) 4 b D cy 0 0 M 0 [(0, .ref (b + v0))] []
  refine x_aload_n F dX11_readSaid_0 rfl 0 rfl ?_
  refine x_bipush F (v := 40) dX11_readSaid_1 (by decide) ?_
  obtain ⟨k3, h⟩ := gdS h
  obtain ⟨⟨x3, M3⟩, c3, h⟩ := bdS h
  dsimp only at h
  refine x_callV F (As := [.int 40]) (rest := []) (res := (some (.int x3))) (ci := 11) (q := (RX11, TX11, 45)) rfl (by decide) k3 (k_X11_isSign l b D cy N v0 40 M _ _ c3) wl_904 wl_905 wl_906 wl_854 wl_889 hd_X11_isSign ⟨by show 1 + 1 ≤ n0 + 1; omega, by show 8 + (2 + 11) + 100 * 1 ≤ 100 * (n0 + 1); omega⟩ ⟨Nat.le_refl _, Nat.le_refl _⟩ (Nat.le_of_ble_eq_true rfl) rfl dX11_readSaid_3 ?_
  refine x_istore_n F (lv' := [(1, .int x3), (0, .ref (b + v0))]) dX11_readSaid_6 rfl (by decide) rfl ?_
  refine x_bipush F (v := 10) dX11_readSaid_7 (by decide) ?_
  refine x_istore_n F (lv' := [(2, .int 10), (1, .int x3), (0, .ref (b + v0))]) dX11_readSaid_9 rfl (by decide) rfl ?_
  have L10 : ∀ (v0 : Nat) (v1 : Int32) (n : Nat) (v2 : Int32) (M : Mem) (o : Int32 × Mem), fX11_readSaid_L10 N rf v0 v1 n v2 M = some o → (∀ (w2 : Int32) (M' : Mem), o = (w2, M') → X p l e ({ frames := n0 + 1, cells := 0, slots := 0, locals := 100 * (n0 + 1) }) s m args below meth c (MQ below (Qm b D cy (some (.int r)) Mf) args s 0 0 (fun q => b ≤ q)) 4 b D cy 0 0 M' 30 [(0, .ref (b + v0)), (1, .int v1), (2, .int w2)] []) → X p l e ({ frames := n0 + 1, cells := 0, slots := 0, locals := 100 * (n0 + 1) }) s m args below meth c (MQ below (Qm b D cy (some (.int r)) Mf) args s 0 0 (fun q => b ≤ q)) 4 b D cy 0 0 M 10 [(0, .ref (b + v0)), (1, .int v1), (2, .int v2)] [] := by
    intro v0 v1 n
    induction n with
    | zero => intro v2 M o h; exact absurd h (by rw [fX11_readSaid_L10]; exact fun z => by cases z)
    | succ n ih =>
      intro v2 M o h hE
      rw [fX11_readSaid_L10] at h
      refine x_iload_n F dX11_readSaid_10 rfl 2 rfl ?_
      refine x_bipush F (v := 19) dX11_readSaid_11 (by decide) ?_
      refine x_icmp_gt F (tgt := 30) dX11_readSaid_13 (by decide) (fun c13 => ?_) (fun c13 => ?_)
      · rw [if_pos c13] at h
        obtain rfl := Option.some.inj h
        exact hE _ _ rfl
      · rw [if_neg c13] at h
        refine x_aload_n F dX11_readSaid_16 rfl 0 rfl ?_
        refine x_iload_n F dX11_readSaid_17 rfl 2 rfl ?_
        obtain ⟨k18, h⟩ := gdS h
        obtain ⟨⟨x18, M18⟩, c18, h⟩ := bdS h
        dsimp only at h
        refine x_callV F (As := [.int v2]) (rest := []) (res := (some (.int x18))) (ci := 11) (q := (RX11, TX11, 45)) rfl (by decide) k18 (k_X11_isWord l b D cy N v0 v2 M _ _ c18) wl_967 wl_968 wl_969 wl_854 wl_886 hd_X11_isWord ⟨by show 3 + 1 ≤ n0 + 1; omega, by show 8 + (2 + 11) + 100 * 3 ≤ 100 * (n0 + 1); omega⟩ ⟨Nat.le_refl _, Nat.le_refl _⟩ (Nat.le_of_ble_eq_true rfl) rfl dX11_readSaid_18 ?_
        refine x_if_ne F (tgt := 30) dX11_readSaid_21 (by decide) (fun c21 => ?_) (fun c21 => ?_)
        · rw [if_neg c21] at h
          obtain rfl := Option.some.inj h
          exact hE _ _ rfl
        · rw [if_pos c21] at h
          refine x_iinc F (v := v2 + 1) (lv' := [(2, .int (v2 + 1)), (0, .ref (b + v0)), (1, .int v1)]) dX11_readSaid_24 2 rfl rfl (by decide) rfl ?_
          refine x_goto F (tgt := 10) dX11_readSaid_27 (by decide) ?_
          refine x_sub [1, 2, 0] rfl ?_
          exact ih (v2 + 1) M18 o h hE
  obtain ⟨o10, h10, h⟩ := bdS h
  refine x_sub [2, 1, 0] rfl ?_
  refine L10 v0 x3 N 10 M3 o10 h10 (fun w2_10 M10 e => ?_)
  · subst e
    dsimp only at h
    exact J30 v0 x3 w2_10 M10 h
theorem dX11_readNot_0 : decode cX11_readNot 0 = .ok (.aload_n 0, 1) := by decide +kernel
theorem dX11_readNot_1 : decode cX11_readNot 1 = .ok (.invokevirtual 408, 3) := by decide +kernel
theorem dX11_readNot_4 : decode cX11_readNot 4 = .ok (.ifCond .ne 5, 3) := by decide +kernel
theorem dX11_readNot_7 : decode cX11_readNot 7 = .ok (.iconst 0, 1) := by decide +kernel
theorem dX11_readNot_8 : decode cX11_readNot 8 = .ok (.ireturn, 1) := by decide +kernel
theorem dX11_readNot_9 : decode cX11_readNot 9 = .ok (.aload_n 0, 1) := by decide +kernel
theorem dX11_readNot_10 : decode cX11_readNot 10 = .ok (.aload_n 0, 1) := by decide +kernel
theorem dX11_readNot_11 : decode cX11_readNot 11 = .ok (.iconst 1, 1) := by decide +kernel
theorem dX11_readNot_12 : decode cX11_readNot 12 = .ok (.aload_n 0, 1) := by decide +kernel
theorem dX11_readNot_13 : decode cX11_readNot 13 = .ok (.getfield 402, 3) := by decide +kernel
theorem dX11_readNot_16 : decode cX11_readNot 16 = .ok (.iconst 0, 1) := by decide +kernel
theorem dX11_readNot_17 : decode cX11_readNot 17 = .ok (.iconst 0, 1) := by decide +kernel
theorem dX11_readNot_18 : decode cX11_readNot 18 = .ok (.invokevirtual 405, 3) := by decide +kernel
theorem dX11_readNot_21 : decode cX11_readNot 21 = .ok (.putfield 402, 3) := by decide +kernel
theorem dX11_readNot_24 : decode cX11_readNot 24 = .ok (.iconst 1, 1) := by decide +kernel
theorem dX11_readNot_25 : decode cX11_readNot 25 = .ok (.ireturn, 1) := by decide +kernel
def fX11_readNot_b (N : Nat) (rf : Nat → Nat → Mem → Option (Int32 × Mem)) (v0 : Nat) (M : Mem) : Option (Int32 × Mem) := (if mK M v0 = 12 then ((rf 2 v0 M).bind fun (x1, M1) => (if x1 = 0 then some (0, M1) else ((fI M1 11 v0 44).bind fun x13 => (if mK M1 v0 = 12 then ((fX11_saysOne N v0 1 x13 0 0 M1).bind fun (x18, M18) => ((pI M18 11 v0 44 x18).bind fun M21 => some (1, M21))) else none)))) else none)
set_option maxHeartbeats 4000000 in
set_option maxRecDepth 100000 in
theorem kb_X11_readNot (l : Launch) (b : Nat) (D : va_G) (cy : Nat → ClassId) (N n0 : Nat) (hn0 : 6 ≤ n0) (rf : Nat → Nat → Mem → Option (Int32 × Mem)) (hrf_X11_readOr : ∀ (v0 : Nat) (M : Mem) (r : Int32) (Mf : Mem), rf 0 v0 M = some (r, Mf) → Ct l yX11_readOr cX11_readOr 2 (some .boolean) n0 0 0 b D cy [.ref (b + v0)] M (some (.int r)) Mf) (hrf_X11_readAnd : ∀ (v0 : Nat) (M : Mem) (r : Int32) (Mf : Mem), rf 1 v0 M = some (r, Mf) → Ct l yX11_readAnd cX11_readAnd 2 (some .boolean) n0 0 0 b D cy [.ref (b + v0)] M (some (.int r)) Mf) (hrf_X11_readSaid : ∀ (v0 : Nat) (M : Mem) (r : Int32) (Mf : Mem), rf 2 v0 M = some (r, Mf) → Ct l yX11_readSaid cX11_readSaid 4 (some .boolean) n0 0 0 b D cy [.ref (b + v0)] M (some (.int r)) Mf) (hrf_X11_readNot : ∀ (v0 : Nat) (M : Mem) (r : Int32) (Mf : Mem), rf 3 v0 M = some (r, Mf) → Ct l yX11_readNot cX11_readNot 1 (some .boolean) n0 0 0 b D cy [.ref (b + v0)] M (some (.int r)) Mf) (hrf_X11_readBracket : ∀ (v0 : Nat) (M : Mem) (r : Int32) (Mf : Mem), rf 4 v0 M = some (r, Mf) → Ct l yX11_readBracket cX11_readBracket 1 (some .boolean) n0 0 0 b D cy [.ref (b + v0)] M (some (.int r)) Mf) (v0 : Nat) (M : Mem) (r : Int32) (Mf : Mem) (h : fX11_readNot_b N rf v0 M = some (r, Mf)) : Ct l yX11_readNot cX11_readNot 1 (some .boolean) (n0 + 1) 0 0 b D cy [.ref (b + v0)] M (some (.int r)) Mf := by
  refine Ct_of (own := RX11) (by decide) rfl (Nat.le_of_ble_eq_true rfl) ?_
  intro p e s m args below meth c F hr hl hmn
  unfold fX11_readNot_b at h
  show X p l e ({ frames := n0 + 1, cells := 0, slots := 0, locals := 100 * (n0 + 1) }) s m args below meth c (MQ below (Qm b D cy (some (.int r)) Mf) args s 0 0 (fun q => b ≤ q)) 1 b D cy 0 0 M 0 [(0, .ref (b + v0))] []
  refine x_aload_n F dX11_readNot_0 rfl 0 rfl ?_
  obtain ⟨k1, h⟩ := gdS h
  obtain ⟨⟨x1, M1⟩, c1, h⟩ := bdS h
  dsimp only at h
  refine x_callV F (As := []) (rest := []) (res := (some (.int x1))) (ci := 11) (q := (RX11, TX11, 45)) rfl (by decide) k1 (hrf_X11_readSaid v0 M _ _ c1) wl_1234 wl_1235 wl_1236 wl_854 wl_1246 hd_X11_readSaid ⟨by show n0 + 1 ≤ n0 + 1; omega, by show 8 + (4 + 11) + 100 * n0 ≤ 100 * (n0 + 1); omega⟩ ⟨Nat.le_refl _, Nat.le_refl _⟩ (Nat.le_of_ble_eq_true rfl) rfl dX11_readNot_1 ?_
  refine x_if_ne F (tgt := 9) dX11_readNot_4 (by decide) (fun c4 => ?_) (fun c4 => ?_)
  · rw [if_neg c4] at h
    refine x_aload_n F dX11_readNot_9 rfl 0 rfl ?_
    refine x_aload_n F dX11_readNot_10 rfl 0 rfl ?_
    refine x_iconst F (v := 1) dX11_readNot_11 (by decide) ?_
    refine x_aload_n F dX11_readNot_12 rfl 0 rfl ?_
    obtain ⟨x13, c13, h⟩ := bdS h
    refine x_getI F (ci := 11) (C := RX11) (T := TX11) (N := 45) rfl ⟨by decide, rfl⟩ inU11 44 (by decide) (fun _ _ _ => rfl) wl_1228 c13 dX11_readNot_13 ?_
    refine x_iconst F (v := 0) dX11_readNot_16 (by decide) ?_
    refine x_iconst F (v := 0) dX11_readNot_17 (by decide) ?_
    obtain ⟨k18, h⟩ := gdS h
    obtain ⟨⟨x18, M18⟩, c18, h⟩ := bdS h
    dsimp only at h
    refine x_callV F (As := [.int 1, .int x13, .int 0, .int 0]) (rest := [.ref (b + v0)]) (res := (some (.int x18))) (ci := 11) (q := (RX11, TX11, 45)) rfl (by decide) k18 (k_X11_saysOne l b D cy N v0 1 x13 0 0 M1 _ _ c18) wl_1229 wl_1230 wl_1231 wl_854 wl_1226 hd_X11_saysOne ⟨by show 1 + 1 ≤ n0 + 1; omega, by show 8 + (6 + 11) + 100 * 1 ≤ 100 * (n0 + 1); omega⟩ ⟨Nat.le_refl _, Nat.le_refl _⟩ (Nat.le_of_ble_eq_true rfl) rfl dX11_readNot_18 ?_
    obtain ⟨M21, c21, h⟩ := bdS h
    refine x_putI F (ci := 11) (C := RX11) (T := TX11) (N := 45) rfl ⟨by decide, rfl⟩ inU11 tyX11_ok nmX11 44 (by decide) rfl rfl wl_1228 c21 dX11_readNot_21 ?_
    refine x_iconst F (v := 1) dX11_readNot_24 (by decide) ?_
    obtain ⟨rfl, rfl⟩ := retS h
    exact x_zret F hr hl (by decide) dX11_readNot_25
  · rw [if_pos c4] at h
    refine x_iconst F (v := 0) dX11_readNot_7 (by decide) ?_
    obtain ⟨rfl, rfl⟩ := retS h
    exact x_zret F hr hl (by decide) dX11_readNot_8
theorem hd_X11_readOr : (yX11_readOr).cls = RX11 ∧ (yX11_readOr).cls ≠ "java/lang/invoke/MethodHandle" ∧ (yX11_readOr).cls ≠ "java/lang/invoke/VarHandle" ∧ (parseMethodDescriptor (yX11_readOr).desc).map (fun d => d.parameters.length) = some 0 := by decide +kernel
theorem dX11_readBracket_0 : decode cX11_readBracket 0 = .ok (.aload_n 0, 1) := by decide +kernel
theorem dX11_readBracket_1 : decode cX11_readBracket 1 = .ok (.invokevirtual 429, 3) := by decide +kernel
theorem dX11_readBracket_4 : decode cX11_readBracket 4 = .ok (.ifCond .ne 5, 3) := by decide +kernel
theorem dX11_readBracket_7 : decode cX11_readBracket 7 = .ok (.iconst 0, 1) := by decide +kernel
theorem dX11_readBracket_8 : decode cX11_readBracket 8 = .ok (.ireturn, 1) := by decide +kernel
theorem dX11_readBracket_9 : decode cX11_readBracket 9 = .ok (.aload_n 0, 1) := by decide +kernel
theorem dX11_readBracket_10 : decode cX11_readBracket 10 = .ok (.bipush 41, 2) := by decide +kernel
theorem dX11_readBracket_12 : decode cX11_readBracket 12 = .ok (.invokevirtual 86, 3) := by decide +kernel
theorem dX11_readBracket_15 : decode cX11_readBracket 15 = .ok (.ifCond .ne 9, 3) := by decide +kernel
theorem dX11_readBracket_18 : decode cX11_readBracket 18 = .ok (.aload_n 0, 1) := by decide +kernel
theorem dX11_readBracket_19 : decode cX11_readBracket 19 = .ok (.iconst 1, 1) := by decide +kernel
theorem dX11_readBracket_20 : decode cX11_readBracket 20 = .ok (.invokevirtual 72, 3) := by decide +kernel
theorem dX11_readBracket_23 : decode cX11_readBracket 23 = .ok (.ireturn, 1) := by decide +kernel
theorem dX11_readBracket_24 : decode cX11_readBracket 24 = .ok (.aload_n 0, 1) := by decide +kernel
theorem dX11_readBracket_25 : decode cX11_readBracket 25 = .ok (.invokevirtual 82, 3) := by decide +kernel
theorem dX11_readBracket_28 : decode cX11_readBracket 28 = .ok (.iconst 1, 1) := by decide +kernel
theorem dX11_readBracket_29 : decode cX11_readBracket 29 = .ok (.ireturn, 1) := by decide +kernel
def fX11_readBracket_b (N : Nat) (rf : Nat → Nat → Mem → Option (Int32 × Mem)) (v0 : Nat) (M : Mem) : Option (Int32 × Mem) := (if mK M v0 = 12 then ((rf 0 v0 M).bind fun (x1, M1) => (if x1 = 0 then some (0, M1) else (if mK M1 v0 = 12 then ((fX11_isSign N v0 41 M1).bind fun (x12, M12) => (if x12 = 0 then (if mK M12 v0 = 12 then ((fX11_bad N v0 1 M12).bind fun (x20, M20) => (if vp_nar .boolean x20 = x20 then some (x20, M20) else none)) else none) else (if mK M12 v0 = 12 then ((fX11_go N v0 M12).bind fun (u25, M25) => some (1, M25)) else none))) else none))) else none)
set_option maxHeartbeats 4000000 in
set_option maxRecDepth 100000 in
theorem kb_X11_readBracket (l : Launch) (b : Nat) (D : va_G) (cy : Nat → ClassId) (N n0 : Nat) (hn0 : 6 ≤ n0) (rf : Nat → Nat → Mem → Option (Int32 × Mem)) (hrf_X11_readOr : ∀ (v0 : Nat) (M : Mem) (r : Int32) (Mf : Mem), rf 0 v0 M = some (r, Mf) → Ct l yX11_readOr cX11_readOr 2 (some .boolean) n0 0 0 b D cy [.ref (b + v0)] M (some (.int r)) Mf) (hrf_X11_readAnd : ∀ (v0 : Nat) (M : Mem) (r : Int32) (Mf : Mem), rf 1 v0 M = some (r, Mf) → Ct l yX11_readAnd cX11_readAnd 2 (some .boolean) n0 0 0 b D cy [.ref (b + v0)] M (some (.int r)) Mf) (hrf_X11_readSaid : ∀ (v0 : Nat) (M : Mem) (r : Int32) (Mf : Mem), rf 2 v0 M = some (r, Mf) → Ct l yX11_readSaid cX11_readSaid 4 (some .boolean) n0 0 0 b D cy [.ref (b + v0)] M (some (.int r)) Mf) (hrf_X11_readNot : ∀ (v0 : Nat) (M : Mem) (r : Int32) (Mf : Mem), rf 3 v0 M = some (r, Mf) → Ct l yX11_readNot cX11_readNot 1 (some .boolean) n0 0 0 b D cy [.ref (b + v0)] M (some (.int r)) Mf) (hrf_X11_readBracket : ∀ (v0 : Nat) (M : Mem) (r : Int32) (Mf : Mem), rf 4 v0 M = some (r, Mf) → Ct l yX11_readBracket cX11_readBracket 1 (some .boolean) n0 0 0 b D cy [.ref (b + v0)] M (some (.int r)) Mf) (v0 : Nat) (M : Mem) (r : Int32) (Mf : Mem) (h : fX11_readBracket_b N rf v0 M = some (r, Mf)) : Ct l yX11_readBracket cX11_readBracket 1 (some .boolean) (n0 + 1) 0 0 b D cy [.ref (b + v0)] M (some (.int r)) Mf := by
  refine Ct_of (own := RX11) (by decide) rfl (Nat.le_of_ble_eq_true rfl) ?_
  intro p e s m args below meth c F hr hl hmn
  unfold fX11_readBracket_b at h
  show X p l e ({ frames := n0 + 1, cells := 0, slots := 0, locals := 100 * (n0 + 1) }) s m args below meth c (MQ below (Qm b D cy (some (.int r)) Mf) args s 0 0 (fun q => b ≤ q)) 1 b D cy 0 0 M 0 [(0, .ref (b + v0))] []
  refine x_aload_n F dX11_readBracket_0 rfl 0 rfl ?_
  obtain ⟨k1, h⟩ := gdS h
  obtain ⟨⟨x1, M1⟩, c1, h⟩ := bdS h
  dsimp only at h
  refine x_callV F (As := []) (rest := []) (res := (some (.int x1))) (ci := 11) (q := (RX11, TX11, 45)) rfl (by decide) k1 (hrf_X11_readOr v0 M _ _ c1) wl_1238 wl_1239 wl_1240 wl_854 wl_1242 hd_X11_readOr ⟨by show n0 + 1 ≤ n0 + 1; omega, by show 8 + (2 + 11) + 100 * n0 ≤ 100 * (n0 + 1); omega⟩ ⟨Nat.le_refl _, Nat.le_refl _⟩ (Nat.le_of_ble_eq_true rfl) rfl dX11_readBracket_1 ?_
  refine x_if_ne F (tgt := 9) dX11_readBracket_4 (by decide) (fun c4 => ?_) (fun c4 => ?_)
  · rw [if_neg c4] at h
    refine x_aload_n F dX11_readBracket_9 rfl 0 rfl ?_
    refine x_bipush F (v := 41) dX11_readBracket_10 (by decide) ?_
    obtain ⟨k12, h⟩ := gdS h
    obtain ⟨⟨x12, M12⟩, c12, h⟩ := bdS h
    dsimp only at h
    refine x_callV F (As := [.int 41]) (rest := []) (res := (some (.int x12))) (ci := 11) (q := (RX11, TX11, 45)) rfl (by decide) k12 (k_X11_isSign l b D cy N v0 41 M1 _ _ c12) wl_904 wl_905 wl_906 wl_854 wl_889 hd_X11_isSign ⟨by show 1 + 1 ≤ n0 + 1; omega, by show 8 + (2 + 11) + 100 * 1 ≤ 100 * (n0 + 1); omega⟩ ⟨Nat.le_refl _, Nat.le_refl _⟩ (Nat.le_of_ble_eq_true rfl) rfl dX11_readBracket_12 ?_
    refine x_if_ne F (tgt := 24) dX11_readBracket_15 (by decide) (fun c15 => ?_) (fun c15 => ?_)
    · rw [if_neg c15] at h
      refine x_aload_n F dX11_readBracket_24 rfl 0 rfl ?_
      obtain ⟨k25, h⟩ := gdS h
      obtain ⟨⟨u25, M25⟩, c25, h⟩ := bdS h
      dsimp only at h
      refine x_callV F (As := []) (rest := []) (res := none) (ci := 11) (q := (RX11, TX11, 45)) rfl (by decide) k25 (k_X11_go l b D cy N v0 M12 _ _ c25) wl_900 wl_901 wl_902 wl_854 wl_865 hd_X11_go ⟨by show 2 + 1 ≤ n0 + 1; omega, by show 8 + (5 + 11) + 100 * 2 ≤ 100 * (n0 + 1); omega⟩ ⟨Nat.le_refl _, Nat.le_refl _⟩ (Nat.le_of_ble_eq_true rfl) rfl dX11_readBracket_25 ?_
      refine x_iconst F (v := 1) dX11_readBracket_28 (by decide) ?_
      obtain ⟨rfl, rfl⟩ := retS h
      exact x_zret F hr hl (by decide) dX11_readBracket_29
    · rw [if_pos c15] at h
      refine x_aload_n F dX11_readBracket_18 rfl 0 rfl ?_
      refine x_iconst F (v := 1) dX11_readBracket_19 (by decide) ?_
      obtain ⟨k20, h⟩ := gdS h
      obtain ⟨⟨x20, M20⟩, c20, h⟩ := bdS h
      dsimp only at h
      refine x_callV F (As := [.int 1]) (rest := []) (res := (some (.int x20))) (ci := 11) (q := (RX11, TX11, 45)) rfl (by decide) k20 (k_X11_bad l b D cy N v0 1 M12 _ _ c20) wl_895 wl_896 wl_897 wl_854 wl_891 hd_X11_bad ⟨by show 1 + 1 ≤ n0 + 1; omega, by show 8 + (2 + 11) + 100 * 1 ≤ 100 * (n0 + 1); omega⟩ ⟨Nat.le_refl _, Nat.le_refl _⟩ (Nat.le_of_ble_eq_true rfl) rfl dX11_readBracket_20 ?_
      obtain ⟨c23, h⟩ := gdS h
      obtain ⟨rfl, rfl⟩ := retS h
      exact x_zret F hr hl c23 dX11_readBracket_23
  · rw [if_pos c4] at h
    refine x_iconst F (v := 0) dX11_readBracket_7 (by decide) ?_
    obtain ⟨rfl, rfl⟩ := retS h
    exact x_zret F hr hl (by decide) dX11_readBracket_8
def fX11_rd (N : Nat) : Nat → Nat → Nat → Mem → Option (Int32 × Mem)
  | 0, _, _, _ => none
  | d + 1, t, v0, M => if t = 0 then fX11_readOr_b N (fX11_rd N d) v0 M else if t = 1 then fX11_readAnd_b N (fX11_rd N d) v0 M else if t = 2 then fX11_readSaid_b N (fX11_rd N d) v0 M else if t = 3 then fX11_readNot_b N (fX11_rd N d) v0 M else fX11_readBracket_b N (fX11_rd N d) v0 M
theorem kg_X11_rd (l : Launch) (b : Nat) (D : va_G) (cy : Nat → ClassId) (N : Nat) : ∀ d : Nat, (∀ (v0 : Nat) (M : Mem) (r : Int32) (Mf : Mem), fX11_rd N d 0 v0 M = some (r, Mf) → Ct l yX11_readOr cX11_readOr 2 (some .boolean) (6 + d) 0 0 b D cy [.ref (b + v0)] M (some (.int r)) Mf) ∧ (∀ (v0 : Nat) (M : Mem) (r : Int32) (Mf : Mem), fX11_rd N d 1 v0 M = some (r, Mf) → Ct l yX11_readAnd cX11_readAnd 2 (some .boolean) (6 + d) 0 0 b D cy [.ref (b + v0)] M (some (.int r)) Mf) ∧ (∀ (v0 : Nat) (M : Mem) (r : Int32) (Mf : Mem), fX11_rd N d 2 v0 M = some (r, Mf) → Ct l yX11_readSaid cX11_readSaid 4 (some .boolean) (6 + d) 0 0 b D cy [.ref (b + v0)] M (some (.int r)) Mf) ∧ (∀ (v0 : Nat) (M : Mem) (r : Int32) (Mf : Mem), fX11_rd N d 3 v0 M = some (r, Mf) → Ct l yX11_readNot cX11_readNot 1 (some .boolean) (6 + d) 0 0 b D cy [.ref (b + v0)] M (some (.int r)) Mf) ∧ (∀ (v0 : Nat) (M : Mem) (r : Int32) (Mf : Mem), fX11_rd N d 4 v0 M = some (r, Mf) → Ct l yX11_readBracket cX11_readBracket 1 (some .boolean) (6 + d) 0 0 b D cy [.ref (b + v0)] M (some (.int r)) Mf) := by
  intro d
  induction d with
  | zero => exact ⟨fun v0 M r Mf h => (by rw [fX11_rd] at h; cases h), fun v0 M r Mf h => (by rw [fX11_rd] at h; cases h), fun v0 M r Mf h => (by rw [fX11_rd] at h; cases h), fun v0 M r Mf h => (by rw [fX11_rd] at h; cases h), fun v0 M r Mf h => (by rw [fX11_rd] at h; cases h)⟩
  | succ d ih =>
    exact ⟨fun v0 M r Mf h => (by rw [fX11_rd] at h; rw [if_pos rfl] at h; exact kb_X11_readOr l b D cy N (6 + d) (by omega) _ (ih.1) (ih.2.1) (ih.2.2.1) (ih.2.2.2.1) (ih.2.2.2.2) v0 M r Mf h),
      fun v0 M r Mf h => (by rw [fX11_rd] at h; rw [if_neg (by decide)] at h; rw [if_pos rfl] at h; exact kb_X11_readAnd l b D cy N (6 + d) (by omega) _ (ih.1) (ih.2.1) (ih.2.2.1) (ih.2.2.2.1) (ih.2.2.2.2) v0 M r Mf h),
      fun v0 M r Mf h => (by rw [fX11_rd] at h; rw [if_neg (by decide)] at h; rw [if_neg (by decide)] at h; rw [if_pos rfl] at h; exact kb_X11_readSaid l b D cy N (6 + d) (by omega) _ (ih.1) (ih.2.1) (ih.2.2.1) (ih.2.2.2.1) (ih.2.2.2.2) v0 M r Mf h),
      fun v0 M r Mf h => (by rw [fX11_rd] at h; rw [if_neg (by decide)] at h; rw [if_neg (by decide)] at h; rw [if_neg (by decide)] at h; rw [if_pos rfl] at h; exact kb_X11_readNot l b D cy N (6 + d) (by omega) _ (ih.1) (ih.2.1) (ih.2.2.1) (ih.2.2.2.1) (ih.2.2.2.2) v0 M r Mf h),
      fun v0 M r Mf h => (by rw [fX11_rd] at h; rw [if_neg (by decide)] at h; rw [if_neg (by decide)] at h; rw [if_neg (by decide)] at h; rw [if_neg (by decide)] at h; exact kb_X11_readBracket l b D cy N (6 + d) (by omega) _ (ih.1) (ih.2.1) (ih.2.2.1) (ih.2.2.2.1) (ih.2.2.2.2) v0 M r Mf h)⟩
theorem k_X11_readOr (l : Launch) (b : Nat) (D : va_G) (cy : Nat → ClassId) (N d : Nat) (v0 : Nat) (M : Mem) (r : Int32) (Mf : Mem) (h : fX11_rd N d 0 v0 M = some (r, Mf)) : Ct l yX11_readOr cX11_readOr 2 (some .boolean) (6 + d) 0 0 b D cy [.ref (b + v0)] M (some (.int r)) Mf := (kg_X11_rd l b D cy N d).1 v0 M r Mf h
theorem k_X11_readAnd (l : Launch) (b : Nat) (D : va_G) (cy : Nat → ClassId) (N d : Nat) (v0 : Nat) (M : Mem) (r : Int32) (Mf : Mem) (h : fX11_rd N d 1 v0 M = some (r, Mf)) : Ct l yX11_readAnd cX11_readAnd 2 (some .boolean) (6 + d) 0 0 b D cy [.ref (b + v0)] M (some (.int r)) Mf := (kg_X11_rd l b D cy N d).2.1 v0 M r Mf h
theorem k_X11_readSaid (l : Launch) (b : Nat) (D : va_G) (cy : Nat → ClassId) (N d : Nat) (v0 : Nat) (M : Mem) (r : Int32) (Mf : Mem) (h : fX11_rd N d 2 v0 M = some (r, Mf)) : Ct l yX11_readSaid cX11_readSaid 4 (some .boolean) (6 + d) 0 0 b D cy [.ref (b + v0)] M (some (.int r)) Mf := (kg_X11_rd l b D cy N d).2.2.1 v0 M r Mf h
theorem k_X11_readNot (l : Launch) (b : Nat) (D : va_G) (cy : Nat → ClassId) (N d : Nat) (v0 : Nat) (M : Mem) (r : Int32) (Mf : Mem) (h : fX11_rd N d 3 v0 M = some (r, Mf)) : Ct l yX11_readNot cX11_readNot 1 (some .boolean) (6 + d) 0 0 b D cy [.ref (b + v0)] M (some (.int r)) Mf := (kg_X11_rd l b D cy N d).2.2.2.1 v0 M r Mf h
theorem k_X11_readBracket (l : Launch) (b : Nat) (D : va_G) (cy : Nat → ClassId) (N d : Nat) (v0 : Nat) (M : Mem) (r : Int32) (Mf : Mem) (h : fX11_rd N d 4 v0 M = some (r, Mf)) : Ct l yX11_readBracket cX11_readBracket 1 (some .boolean) (6 + d) 0 0 b D cy [.ref (b + v0)] M (some (.int r)) Mf := (kg_X11_rd l b D cy N d).2.2.2.2 v0 M r Mf h
theorem dX11_sentence_0 : decode cX11_sentence 0 = .ok (.aload_n 0, 1) := by decide +kernel
theorem dX11_sentence_1 : decode cX11_sentence 1 = .ok (.sipush 200, 3) := by decide +kernel
theorem dX11_sentence_4 : decode cX11_sentence 4 = .ok (.invokevirtual 204, 3) := by decide +kernel
theorem dX11_sentence_7 : decode cX11_sentence 7 = .ok (.aload_n 0, 1) := by decide +kernel
theorem dX11_sentence_8 : decode cX11_sentence 8 = .ok (.iconst 0, 1) := by decide +kernel
theorem dX11_sentence_9 : decode cX11_sentence 9 = .ok (.putfield 396, 3) := by decide +kernel
theorem dX11_sentence_12 : decode cX11_sentence 12 = .ok (.aload_n 0, 1) := by decide +kernel
theorem dX11_sentence_13 : decode cX11_sentence 13 = .ok (.iconst 0, 1) := by decide +kernel
theorem dX11_sentence_14 : decode cX11_sentence 14 = .ok (.putfield 411, 3) := by decide +kernel
theorem dX11_sentence_17 : decode cX11_sentence 17 = .ok (.aload_n 0, 1) := by decide +kernel
theorem dX11_sentence_18 : decode cX11_sentence 18 = .ok (.iconst 0, 1) := by decide +kernel
theorem dX11_sentence_19 : decode cX11_sentence 19 = .ok (.putfield 414, 3) := by decide +kernel
theorem dX11_sentence_22 : decode cX11_sentence 22 = .ok (.aload_n 0, 1) := by decide +kernel
theorem dX11_sentence_23 : decode cX11_sentence 23 = .ok (.invokevirtual 429, 3) := by decide +kernel
theorem dX11_sentence_26 : decode cX11_sentence 26 = .ok (.ifCond .ne 10, 3) := by decide +kernel
theorem dX11_sentence_29 : decode cX11_sentence 29 = .ok (.iconst (-1), 1) := by decide +kernel
theorem dX11_sentence_30 : decode cX11_sentence 30 = .ok (.aload_n 0, 1) := by decide +kernel
theorem dX11_sentence_31 : decode cX11_sentence 31 = .ok (.getfield 69, 3) := by decide +kernel
theorem dX11_sentence_34 : decode cX11_sentence 34 = .ok (.isub, 1) := by decide +kernel
theorem dX11_sentence_35 : decode cX11_sentence 35 = .ok (.ireturn, 1) := by decide +kernel
theorem dX11_sentence_36 : decode cX11_sentence 36 = .ok (.aload_n 0, 1) := by decide +kernel
theorem dX11_sentence_37 : decode cX11_sentence 37 = .ok (.getfield 30, 3) := by decide +kernel
theorem dX11_sentence_40 : decode cX11_sentence 40 = .ok (.ifCond .eq 16, 3) := by decide +kernel
theorem dX11_sentence_43 : decode cX11_sentence 43 = .ok (.aload_n 0, 1) := by decide +kernel
theorem dX11_sentence_44 : decode cX11_sentence 44 = .ok (.iconst 1, 1) := by decide +kernel
theorem dX11_sentence_45 : decode cX11_sentence 45 = .ok (.invokevirtual 72, 3) := by decide +kernel
theorem dX11_sentence_48 : decode cX11_sentence 48 = .ok (.pop, 1) := by decide +kernel
theorem dX11_sentence_49 : decode cX11_sentence 49 = .ok (.iconst (-1), 1) := by decide +kernel
theorem dX11_sentence_50 : decode cX11_sentence 50 = .ok (.aload_n 0, 1) := by decide +kernel
theorem dX11_sentence_51 : decode cX11_sentence 51 = .ok (.getfield 69, 3) := by decide +kernel
theorem dX11_sentence_54 : decode cX11_sentence 54 = .ok (.isub, 1) := by decide +kernel
theorem dX11_sentence_55 : decode cX11_sentence 55 = .ok (.ireturn, 1) := by decide +kernel
theorem dX11_sentence_56 : decode cX11_sentence 56 = .ok (.aload_n 0, 1) := by decide +kernel
theorem dX11_sentence_57 : decode cX11_sentence 57 = .ok (.getfield 98, 3) := by decide +kernel
theorem dX11_sentence_60 : decode cX11_sentence 60 = .ok (.sipush 199, 3) := by decide +kernel
theorem dX11_sentence_63 : decode cX11_sentence 63 = .ok (.iconst 1, 1) := by decide +kernel
theorem dX11_sentence_64 : decode cX11_sentence 64 = .ok (.iastore, 1) := by decide +kernel
theorem dX11_sentence_65 : decode cX11_sentence 65 = .ok (.aload_n 0, 1) := by decide +kernel
theorem dX11_sentence_66 : decode cX11_sentence 66 = .ok (.getfield 98, 3) := by decide +kernel
theorem dX11_sentence_69 : decode cX11_sentence 69 = .ok (.sipush 200, 3) := by decide +kernel
theorem dX11_sentence_72 : decode cX11_sentence 72 = .ok (.aload_n 0, 1) := by decide +kernel
theorem dX11_sentence_73 : decode cX11_sentence 73 = .ok (.getfield 402, 3) := by decide +kernel
theorem dX11_sentence_76 : decode cX11_sentence 76 = .ok (.iastore, 1) := by decide +kernel
theorem dX11_sentence_77 : decode cX11_sentence 77 = .ok (.iconst 0, 1) := by decide +kernel
theorem dX11_sentence_78 : decode cX11_sentence 78 = .ok (.istore_n 1, 1) := by decide +kernel
theorem dX11_sentence_79 : decode cX11_sentence 79 = .ok (.iload_n 1, 1) := by decide +kernel
theorem dX11_sentence_80 : decode cX11_sentence 80 = .ok (.sipush 240, 3) := by decide +kernel
theorem dX11_sentence_83 : decode cX11_sentence 83 = .ok (.if_icmp .ge 25, 3) := by decide +kernel
theorem dX11_sentence_86 : decode cX11_sentence 86 = .ok (.aload_n 0, 1) := by decide +kernel
theorem dX11_sentence_87 : decode cX11_sentence 87 = .ok (.getfield 98, 3) := by decide +kernel
theorem dX11_sentence_90 : decode cX11_sentence 90 = .ok (.sipush 201, 3) := by decide +kernel
theorem dX11_sentence_93 : decode cX11_sentence 93 = .ok (.iload_n 1, 1) := by decide +kernel
theorem dX11_sentence_94 : decode cX11_sentence 94 = .ok (.iadd, 1) := by decide +kernel
theorem dX11_sentence_95 : decode cX11_sentence 95 = .ok (.aload_n 0, 1) := by decide +kernel
theorem dX11_sentence_96 : decode cX11_sentence 96 = .ok (.getfield 151, 3) := by decide +kernel
theorem dX11_sentence_99 : decode cX11_sentence 99 = .ok (.iload_n 1, 1) := by decide +kernel
theorem dX11_sentence_100 : decode cX11_sentence 100 = .ok (.iaload, 1) := by decide +kernel
theorem dX11_sentence_101 : decode cX11_sentence 101 = .ok (.iastore, 1) := by decide +kernel
theorem dX11_sentence_102 : decode cX11_sentence 102 = .ok (.iinc 1 1, 3) := by decide +kernel
theorem dX11_sentence_105 : decode cX11_sentence 105 = .ok (.goto (-26), 3) := by decide +kernel
theorem dX11_sentence_108 : decode cX11_sentence 108 = .ok (.aload_n 0, 1) := by decide +kernel
theorem dX11_sentence_109 : decode cX11_sentence 109 = .ok (.getfield 411, 3) := by decide +kernel
theorem dX11_sentence_112 : decode cX11_sentence 112 = .ok (.ireturn, 1) := by decide +kernel
def fX11_sentence_L79 (N : Nat) (v0 : Nat) : Nat → Int32 → Mem → Option (Int32 × Mem)
  | 0, _, _ => none
  | n + 1, v1, M => (if 240 ≤ v1 then ((fI M 11 v0 42).bind fun x109 => some (x109, M)) else ((fR M 11 v0 14).bind fun x87 => ((fR M 11 v0 40).bind fun x96 => ((aI M x96 v1).bind fun x100 => ((tI M x87 (201 + v1) x100).bind fun M101 => fX11_sentence_L79 N v0 n (v1 + 1) M101)))))
def fX11_sentence (N : Nat) (v0 : Nat) (M : Mem) : Option (Int32 × Mem) := (if mK M v0 = 12 then ((fX11_begin N v0 200 M).bind fun (u4, M4) => ((pI M4 11 v0 41 0).bind fun M9 => ((pI M9 11 v0 42 0).bind fun M14 => ((pI M14 11 v0 43 0).bind fun M19 => (if mK M19 v0 = 12 then ((fX11_rd N 80 0 v0 M19).bind fun (x23, M23) => (if x23 = 0 then ((fI M23 11 v0 11).bind fun x31 => some (((-1)) - x31, M23)) else ((fI M23 11 v0 7).bind fun x37 => (if x37 = 0 then ((fR M23 11 v0 14).bind fun x57 => ((tI M23 x57 199 1).bind fun M64 => ((fR M64 11 v0 14).bind fun x66 => ((fI M64 11 v0 44).bind fun x73 => ((tI M64 x66 200 x73).bind fun M76 => ((fX11_sentence_L79 N v0 N 0 M76).bind fun o79 => some o79)))))) else (if mK M23 v0 = 12 then ((fX11_bad N v0 1 M23).bind fun (x45, M45) => ((fI M45 11 v0 11).bind fun x51 => some (((-1)) - x51, M45))) else none))))) else none))))) else none)
set_option maxHeartbeats 4000000 in
set_option maxRecDepth 100000 in
theorem k_X11_sentence (l : Launch) (b : Nat) (D : va_G) (cy : Nat → ClassId) (N : Nat) (v0 : Nat) (M : Mem) (r : Int32) (Mf : Mem) (h : fX11_sentence N v0 M = some (r, Mf)) : Ct l yX11_sentence cX11_sentence 2 (some .int) 87 0 0 b D cy [.ref (b + v0)] M (some (.int r)) Mf := by
  refine Ct_of (own := RX11) (by decide) rfl (Nat.le_of_ble_eq_true rfl) ?_
  intro p e s m args below meth c F hr hl hmn
  unfold fX11_sentence at h
  show X p l e ({ frames := 87, cells := 0, slots := 0, locals := 100 * 87 }) s m args below meth c (MQ below (Qm b D cy (some (.int r)) Mf) args s 0 0 (fun q => b ≤ q)) 2 b D cy 0 0 M 0 [(0, .ref (b + v0))] []
  refine x_aload_n F dX11_sentence_0 rfl 0 rfl ?_
  refine x_sipush F (v := 200) dX11_sentence_1 (by decide) ?_
  obtain ⟨k4, h⟩ := gdS h
  obtain ⟨⟨u4, M4⟩, c4, h⟩ := bdS h
  dsimp only at h
  refine x_callV F (As := [.int 200]) (rest := []) (res := none) (ci := 11) (q := (RX11, TX11, 45)) rfl (by decide) k4 (k_X11_begin l b D cy N v0 200 M _ _ c4) wl_987 wl_988 wl_989 wl_854 wl_911 hd_X11_begin ⟨Nat.le_of_ble_eq_true rfl, Nat.le_of_ble_eq_true rfl⟩ ⟨Nat.le_refl _, Nat.le_refl _⟩ (Nat.le_of_ble_eq_true rfl) rfl dX11_sentence_4 ?_
  refine x_aload_n F dX11_sentence_7 rfl 0 rfl ?_
  refine x_iconst F (v := 0) dX11_sentence_8 (by decide) ?_
  obtain ⟨M9, c9, h⟩ := bdS h
  refine x_putI F (ci := 11) (C := RX11) (T := TX11) (N := 45) rfl ⟨by decide, rfl⟩ inU11 tyX11_ok nmX11 41 (by decide) rfl rfl wl_1227 c9 dX11_sentence_9 ?_
  refine x_aload_n F dX11_sentence_12 rfl 0 rfl ?_
  refine x_iconst F (v := 0) dX11_sentence_13 (by decide) ?_
  obtain ⟨M14, c14, h⟩ := bdS h
  refine x_putI F (ci := 11) (C := RX11) (T := TX11) (N := 45) rfl ⟨by decide, rfl⟩ inU11 tyX11_ok nmX11 42 (by decide) rfl rfl wl_1247 c14 dX11_sentence_14 ?_
  refine x_aload_n F dX11_sentence_17 rfl 0 rfl ?_
  refine x_iconst F (v := 0) dX11_sentence_18 (by decide) ?_
  obtain ⟨M19, c19, h⟩ := bdS h
  refine x_putI F (ci := 11) (C := RX11) (T := TX11) (N := 45) rfl ⟨by decide, rfl⟩ inU11 tyX11_ok nmX11 43 (by decide) rfl rfl wl_1248 c19 dX11_sentence_19 ?_
  refine x_aload_n F dX11_sentence_22 rfl 0 rfl ?_
  obtain ⟨k23, h⟩ := gdS h
  obtain ⟨⟨x23, M23⟩, c23, h⟩ := bdS h
  dsimp only at h
  refine x_callV F (As := []) (rest := []) (res := (some (.int x23))) (ci := 11) (q := (RX11, TX11, 45)) rfl (by decide) k23 (k_X11_readOr l b D cy N 80 v0 M19 _ _ c23) wl_1238 wl_1239 wl_1240 wl_854 wl_1242 hd_X11_readOr ⟨Nat.le_of_ble_eq_true rfl, Nat.le_of_ble_eq_true rfl⟩ ⟨Nat.le_refl _, Nat.le_refl _⟩ (Nat.le_of_ble_eq_true rfl) rfl dX11_sentence_23 ?_
  refine x_if_ne F (tgt := 36) dX11_sentence_26 (by decide) (fun c26 => ?_) (fun c26 => ?_)
  · rw [if_neg c26] at h
    refine x_aload_n F dX11_sentence_36 rfl 0 rfl ?_
    obtain ⟨x37, c37, h⟩ := bdS h
    refine x_getI F (ci := 11) (C := RX11) (T := TX11) (N := 45) rfl ⟨by decide, rfl⟩ inU11 7 (by decide) (fun _ _ _ => rfl) wl_869 c37 dX11_sentence_37 ?_
    refine x_if_eq F (tgt := 56) dX11_sentence_40 (by decide) (fun c40 => ?_) (fun c40 => ?_)
    · rw [if_pos c40] at h
      refine x_aload_n F dX11_sentence_56 rfl 0 rfl ?_
      obtain ⟨x57, c57, h⟩ := bdS h
      refine x_getR F (ci := 11) (C := RX11) (T := TX11) (N := 45) rfl ⟨by decide, rfl⟩ inU11 14 (by decide) (fun _ _ _ => rfl) wl_913 c57 dX11_sentence_57 ?_
      refine x_sipush F (v := 199) dX11_sentence_60 (by decide) ?_
      refine x_iconst F (v := 1) dX11_sentence_63 (by decide) ?_
      obtain ⟨M64, c64, h⟩ := bdS h
      refine x_tI F c64 dX11_sentence_64 ?_
      refine x_aload_n F dX11_sentence_65 rfl 0 rfl ?_
      obtain ⟨x66, c66, h⟩ := bdS h
      refine x_getR F (ci := 11) (C := RX11) (T := TX11) (N := 45) rfl ⟨by decide, rfl⟩ inU11 14 (by decide) (fun _ _ _ => rfl) wl_913 c66 dX11_sentence_66 ?_
      refine x_sipush F (v := 200) dX11_sentence_69 (by decide) ?_
      refine x_aload_n F dX11_sentence_72 rfl 0 rfl ?_
      obtain ⟨x73, c73, h⟩ := bdS h
      refine x_getI F (ci := 11) (C := RX11) (T := TX11) (N := 45) rfl ⟨by decide, rfl⟩ inU11 44 (by decide) (fun _ _ _ => rfl) wl_1228 c73 dX11_sentence_73 ?_
      obtain ⟨M76, c76, h⟩ := bdS h
      refine x_tI F c76 dX11_sentence_76 ?_
      refine x_iconst F (v := 0) dX11_sentence_77 (by decide) ?_
      refine x_istore_n F (lv' := [(1, .int 0), (0, .ref (b + v0))]) dX11_sentence_78 rfl (by decide) rfl ?_
      have L79 : ∀ (v0 : Nat) (n : Nat) (v1 : Int32) (M : Mem) (o : Int32 × Mem), fX11_sentence_L79 N v0 n v1 M = some o → (∀ (r' : Int32) (M' : Mem), o = (r', M') → r' = r ∧ M' = Mf) → X p l e ({ frames := 87, cells := 0, slots := 0, locals := 100 * 87 }) s m args below meth c (MQ below (Qm b D cy (some (.int r)) Mf) args s 0 0 (fun q => b ≤ q)) 2 b D cy 0 0 M 79 [(0, .ref (b + v0)), (1, .int v1)] [] := by
        intro v0 n
        induction n with
        | zero => intro v1 M o h; exact absurd h (by rw [fX11_sentence_L79]; exact fun z => by cases z)
        | succ n ih =>
          intro v1 M o h hR
          rw [fX11_sentence_L79] at h
          refine x_iload_n F dX11_sentence_79 rfl 1 rfl ?_
          refine x_sipush F (v := 240) dX11_sentence_80 (by decide) ?_
          refine x_icmp_ge F (tgt := 108) dX11_sentence_83 (by decide) (fun c83 => ?_) (fun c83 => ?_)
          · rw [if_pos c83] at h
            refine x_aload_n F dX11_sentence_108 rfl 0 rfl ?_
            obtain ⟨x109, c109, h⟩ := bdS h
            refine x_getI F (ci := 11) (C := RX11) (T := TX11) (N := 45) rfl ⟨by decide, rfl⟩ inU11 42 (by decide) (fun _ _ _ => rfl) wl_1247 c109 dX11_sentence_109 ?_
            obtain rfl := Option.some.inj h
            obtain ⟨rfl, rfl⟩ := hR _ _ rfl
            exact x_iret F hr hl dX11_sentence_112
          · rw [if_neg c83] at h
            refine x_aload_n F dX11_sentence_86 rfl 0 rfl ?_
            obtain ⟨x87, c87, h⟩ := bdS h
            refine x_getR F (ci := 11) (C := RX11) (T := TX11) (N := 45) rfl ⟨by decide, rfl⟩ inU11 14 (by decide) (fun _ _ _ => rfl) wl_913 c87 dX11_sentence_87 ?_
            refine x_sipush F (v := 201) dX11_sentence_90 (by decide) ?_
            refine x_iload_n F dX11_sentence_93 rfl 1 rfl ?_
            refine x_iadd F dX11_sentence_94 ?_
            refine x_aload_n F dX11_sentence_95 rfl 0 rfl ?_
            obtain ⟨x96, c96, h⟩ := bdS h
            refine x_getR F (ci := 11) (C := RX11) (T := TX11) (N := 45) rfl ⟨by decide, rfl⟩ inU11 40 (by decide) (fun _ _ _ => rfl) wl_931 c96 dX11_sentence_96 ?_
            refine x_iload_n F dX11_sentence_99 rfl 1 rfl ?_
            obtain ⟨x100, c100, h⟩ := bdS h
            refine x_aI F c100 dX11_sentence_100 ?_
            obtain ⟨M101, c101, h⟩ := bdS h
            refine x_tI F c101 dX11_sentence_101 ?_
            refine x_iinc F (v := v1 + 1) (lv' := [(1, .int (v1 + 1)), (0, .ref (b + v0))]) dX11_sentence_102 1 rfl rfl (by decide) rfl ?_
            refine x_goto F (tgt := 79) dX11_sentence_105 (by decide) ?_
            refine x_sub [1, 0] rfl ?_
            exact ih (v1 + 1) M101 o h hR
      obtain ⟨o79, h79, h⟩ := bdS h
      refine x_sub [1, 0] rfl ?_
      refine L79 v0 N 0 M76 o79 h79 (fun r' M' e => ?_)
      · subst e
        try dsimp only at h
        obtain ⟨rfl, rfl⟩ := retS h; exact ⟨rfl, rfl⟩
    · rw [if_neg c40] at h
      refine x_aload_n F dX11_sentence_43 rfl 0 rfl ?_
      refine x_iconst F (v := 1) dX11_sentence_44 (by decide) ?_
      obtain ⟨k45, h⟩ := gdS h
      obtain ⟨⟨x45, M45⟩, c45, h⟩ := bdS h
      dsimp only at h
      refine x_callV F (As := [.int 1]) (rest := []) (res := (some (.int x45))) (ci := 11) (q := (RX11, TX11, 45)) rfl (by decide) k45 (k_X11_bad l b D cy N v0 1 M23 _ _ c45) wl_895 wl_896 wl_897 wl_854 wl_891 hd_X11_bad ⟨Nat.le_of_ble_eq_true rfl, Nat.le_of_ble_eq_true rfl⟩ ⟨Nat.le_refl _, Nat.le_refl _⟩ (Nat.le_of_ble_eq_true rfl) rfl dX11_sentence_45 ?_
      refine x_pop F dX11_sentence_48 rfl ?_
      refine x_iconst F (v := (-1)) dX11_sentence_49 (by decide) ?_
      refine x_aload_n F dX11_sentence_50 rfl 0 rfl ?_
      obtain ⟨x51, c51, h⟩ := bdS h
      refine x_getI F (ci := 11) (C := RX11) (T := TX11) (N := 45) rfl ⟨by decide, rfl⟩ inU11 11 (by decide) (fun _ _ _ => rfl) wl_893 c51 dX11_sentence_51 ?_
      refine x_isub F dX11_sentence_54 ?_
      obtain ⟨rfl, rfl⟩ := retS h
      exact x_iret F hr hl dX11_sentence_55
  · rw [if_pos c26] at h
    refine x_iconst F (v := (-1)) dX11_sentence_29 (by decide) ?_
    refine x_aload_n F dX11_sentence_30 rfl 0 rfl ?_
    obtain ⟨x31, c31, h⟩ := bdS h
    refine x_getI F (ci := 11) (C := RX11) (T := TX11) (N := 45) rfl ⟨by decide, rfl⟩ inU11 11 (by decide) (fun _ _ _ => rfl) wl_893 c31 dX11_sentence_31 ?_
    refine x_isub F dX11_sentence_34 ?_
    obtain ⟨rfl, rfl⟩ := retS h
    exact x_iret F hr hl dX11_sentence_35
