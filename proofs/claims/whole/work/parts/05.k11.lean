theorem hd_X11_holds : (yX11_holds).cls = RX11 ∧ (yX11_holds).cls ≠ "java/lang/invoke/MethodHandle" ∧ (yX11_holds).cls ≠ "java/lang/invoke/VarHandle" ∧ (parseMethodDescriptor (yX11_holds).desc).map (fun d => d.parameters.length) = some 2 := by decide +kernel
theorem hd_X11_hasHand : (yX11_hasHand).cls = RX11 ∧ (yX11_hasHand).cls ≠ "java/lang/invoke/MethodHandle" ∧ (yX11_hasHand).cls ≠ "java/lang/invoke/VarHandle" ∧ (parseMethodDescriptor (yX11_hasHand).desc).map (fun d => d.parameters.length) = some 2 := by decide +kernel
theorem dX11_holds_0 : decode cX11_holds 0 = .ok (.sipush 201, 3) := by decide +kernel
theorem dX11_holds_3 : decode cX11_holds 3 = .ok (.iconst 4, 1) := by decide +kernel
theorem dX11_holds_4 : decode cX11_holds 4 = .ok (.iload_n 1, 1) := by decide +kernel
theorem dX11_holds_5 : decode cX11_holds 5 = .ok (.imul, 1) := by decide +kernel
theorem dX11_holds_6 : decode cX11_holds 6 = .ok (.iadd, 1) := by decide +kernel
theorem dX11_holds_7 : decode cX11_holds 7 = .ok (.istore_n 3, 1) := by decide +kernel
theorem dX11_holds_8 : decode cX11_holds 8 = .ok (.aload_n 0, 1) := by decide +kernel
theorem dX11_holds_9 : decode cX11_holds 9 = .ok (.getfield 98, 3) := by decide +kernel
theorem dX11_holds_12 : decode cX11_holds 12 = .ok (.iload_n 3, 1) := by decide +kernel
theorem dX11_holds_13 : decode cX11_holds 13 = .ok (.iconst 1, 1) := by decide +kernel
theorem dX11_holds_14 : decode cX11_holds 14 = .ok (.iadd, 1) := by decide +kernel
theorem dX11_holds_15 : decode cX11_holds 15 = .ok (.iaload, 1) := by decide +kernel
theorem dX11_holds_16 : decode cX11_holds 16 = .ok (.istore 4, 2) := by decide +kernel
theorem dX11_holds_18 : decode cX11_holds 18 = .ok (.aload_n 0, 1) := by decide +kernel
theorem dX11_holds_19 : decode cX11_holds 19 = .ok (.getfield 98, 3) := by decide +kernel
theorem dX11_holds_22 : decode cX11_holds 22 = .ok (.iload_n 3, 1) := by decide +kernel
theorem dX11_holds_23 : decode cX11_holds 23 = .ok (.iconst 2, 1) := by decide +kernel
theorem dX11_holds_24 : decode cX11_holds 24 = .ok (.iadd, 1) := by decide +kernel
theorem dX11_holds_25 : decode cX11_holds 25 = .ok (.iaload, 1) := by decide +kernel
theorem dX11_holds_26 : decode cX11_holds 26 = .ok (.istore 5, 2) := by decide +kernel
theorem dX11_holds_28 : decode cX11_holds 28 = .ok (.aload_n 0, 1) := by decide +kernel
theorem dX11_holds_29 : decode cX11_holds 29 = .ok (.getfield 98, 3) := by decide +kernel
theorem dX11_holds_32 : decode cX11_holds 32 = .ok (.iload_n 3, 1) := by decide +kernel
theorem dX11_holds_33 : decode cX11_holds 33 = .ok (.iaload, 1) := by decide +kernel
theorem dX11_holds_34 : decode cX11_holds 34 = .ok (.lookupswitch 202 #[(1, 74), (2, 90), (3, 116), (61, 142), (62, 156), (63, 179), (64, 186), (65, 194)], 74) := by decide +kernel
theorem dX11_holds_108 : decode cX11_holds 108 = .ok (.aload_n 0, 1) := by decide +kernel
theorem dX11_holds_109 : decode cX11_holds 109 = .ok (.iload 4, 2) := by decide +kernel
theorem dX11_holds_111 : decode cX11_holds 111 = .ok (.iload_n 2, 1) := by decide +kernel
theorem dX11_holds_112 : decode cX11_holds 112 = .ok (.invokevirtual 432, 3) := by decide +kernel
theorem dX11_holds_115 : decode cX11_holds 115 = .ok (.ifCond .ne 7, 3) := by decide +kernel
theorem dX11_holds_118 : decode cX11_holds 118 = .ok (.iconst 1, 1) := by decide +kernel
theorem dX11_holds_119 : decode cX11_holds 119 = .ok (.goto 4, 3) := by decide +kernel
theorem dX11_holds_122 : decode cX11_holds 122 = .ok (.iconst 0, 1) := by decide +kernel
theorem dX11_holds_123 : decode cX11_holds 123 = .ok (.ireturn, 1) := by decide +kernel
theorem dX11_holds_124 : decode cX11_holds 124 = .ok (.aload_n 0, 1) := by decide +kernel
theorem dX11_holds_125 : decode cX11_holds 125 = .ok (.iload 4, 2) := by decide +kernel
theorem dX11_holds_127 : decode cX11_holds 127 = .ok (.iload_n 2, 1) := by decide +kernel
theorem dX11_holds_128 : decode cX11_holds 128 = .ok (.invokevirtual 432, 3) := by decide +kernel
theorem dX11_holds_131 : decode cX11_holds 131 = .ok (.ifCond .eq 17, 3) := by decide +kernel
theorem dX11_holds_134 : decode cX11_holds 134 = .ok (.aload_n 0, 1) := by decide +kernel
theorem dX11_holds_135 : decode cX11_holds 135 = .ok (.iload 5, 2) := by decide +kernel
theorem dX11_holds_137 : decode cX11_holds 137 = .ok (.iload_n 2, 1) := by decide +kernel
theorem dX11_holds_138 : decode cX11_holds 138 = .ok (.invokevirtual 432, 3) := by decide +kernel
theorem dX11_holds_141 : decode cX11_holds 141 = .ok (.ifCond .eq 7, 3) := by decide +kernel
theorem dX11_holds_144 : decode cX11_holds 144 = .ok (.iconst 1, 1) := by decide +kernel
theorem dX11_holds_145 : decode cX11_holds 145 = .ok (.goto 4, 3) := by decide +kernel
theorem dX11_holds_148 : decode cX11_holds 148 = .ok (.iconst 0, 1) := by decide +kernel
theorem dX11_holds_149 : decode cX11_holds 149 = .ok (.ireturn, 1) := by decide +kernel
theorem dX11_holds_150 : decode cX11_holds 150 = .ok (.aload_n 0, 1) := by decide +kernel
theorem dX11_holds_151 : decode cX11_holds 151 = .ok (.iload 4, 2) := by decide +kernel
theorem dX11_holds_153 : decode cX11_holds 153 = .ok (.iload_n 2, 1) := by decide +kernel
theorem dX11_holds_154 : decode cX11_holds 154 = .ok (.invokevirtual 432, 3) := by decide +kernel
theorem dX11_holds_157 : decode cX11_holds 157 = .ok (.ifCond .ne 13, 3) := by decide +kernel
theorem dX11_holds_160 : decode cX11_holds 160 = .ok (.aload_n 0, 1) := by decide +kernel
theorem dX11_holds_161 : decode cX11_holds 161 = .ok (.iload 5, 2) := by decide +kernel
theorem dX11_holds_163 : decode cX11_holds 163 = .ok (.iload_n 2, 1) := by decide +kernel
theorem dX11_holds_164 : decode cX11_holds 164 = .ok (.invokevirtual 432, 3) := by decide +kernel
theorem dX11_holds_167 : decode cX11_holds 167 = .ok (.ifCond .eq 7, 3) := by decide +kernel
theorem dX11_holds_170 : decode cX11_holds 170 = .ok (.iconst 1, 1) := by decide +kernel
theorem dX11_holds_171 : decode cX11_holds 171 = .ok (.goto 4, 3) := by decide +kernel
theorem dX11_holds_174 : decode cX11_holds 174 = .ok (.iconst 0, 1) := by decide +kernel
theorem dX11_holds_175 : decode cX11_holds 175 = .ok (.ireturn, 1) := by decide +kernel
theorem dX11_holds_176 : decode cX11_holds 176 = .ok (.aload_n 0, 1) := by decide +kernel
theorem dX11_holds_177 : decode cX11_holds 177 = .ok (.iload_n 2, 1) := by decide +kernel
theorem dX11_holds_178 : decode cX11_holds 178 = .ok (.invokevirtual 252, 3) := by decide +kernel
theorem dX11_holds_181 : decode cX11_holds 181 = .ok (.ifCond .ne 7, 3) := by decide +kernel
theorem dX11_holds_184 : decode cX11_holds 184 = .ok (.iconst 1, 1) := by decide +kernel
theorem dX11_holds_185 : decode cX11_holds 185 = .ok (.goto 4, 3) := by decide +kernel
theorem dX11_holds_188 : decode cX11_holds 188 = .ok (.iconst 0, 1) := by decide +kernel
theorem dX11_holds_189 : decode cX11_holds 189 = .ok (.ireturn, 1) := by decide +kernel
theorem dX11_holds_190 : decode cX11_holds 190 = .ok (.aload_n 0, 1) := by decide +kernel
theorem dX11_holds_191 : decode cX11_holds 191 = .ok (.iload_n 2, 1) := by decide +kernel
theorem dX11_holds_192 : decode cX11_holds 192 = .ok (.invokevirtual 252, 3) := by decide +kernel
theorem dX11_holds_195 : decode cX11_holds 195 = .ok (.aload_n 0, 1) := by decide +kernel
theorem dX11_holds_196 : decode cX11_holds 196 = .ok (.getfield 98, 3) := by decide +kernel
theorem dX11_holds_199 : decode cX11_holds 199 = .ok (.bipush 11, 2) := by decide +kernel
theorem dX11_holds_201 : decode cX11_holds 201 = .ok (.iload_n 2, 1) := by decide +kernel
theorem dX11_holds_202 : decode cX11_holds 202 = .ok (.iadd, 1) := by decide +kernel
theorem dX11_holds_203 : decode cX11_holds 203 = .ok (.iaload, 1) := by decide +kernel
theorem dX11_holds_204 : decode cX11_holds 204 = .ok (.if_icmp .ne 7, 3) := by decide +kernel
theorem dX11_holds_207 : decode cX11_holds 207 = .ok (.iconst 1, 1) := by decide +kernel
theorem dX11_holds_208 : decode cX11_holds 208 = .ok (.goto 4, 3) := by decide +kernel
theorem dX11_holds_211 : decode cX11_holds 211 = .ok (.iconst 0, 1) := by decide +kernel
theorem dX11_holds_212 : decode cX11_holds 212 = .ok (.ireturn, 1) := by decide +kernel
theorem dX11_holds_213 : decode cX11_holds 213 = .ok (.aload_n 0, 1) := by decide +kernel
theorem dX11_holds_214 : decode cX11_holds 214 = .ok (.iload_n 2, 1) := by decide +kernel
theorem dX11_holds_215 : decode cX11_holds 215 = .ok (.iconst 0, 1) := by decide +kernel
theorem dX11_holds_216 : decode cX11_holds 216 = .ok (.invokevirtual 287, 3) := by decide +kernel
theorem dX11_holds_219 : decode cX11_holds 219 = .ok (.ireturn, 1) := by decide +kernel
theorem dX11_holds_220 : decode cX11_holds 220 = .ok (.aload_n 0, 1) := by decide +kernel
theorem dX11_holds_221 : decode cX11_holds 221 = .ok (.iload 4, 2) := by decide +kernel
theorem dX11_holds_223 : decode cX11_holds 223 = .ok (.iload_n 2, 1) := by decide +kernel
theorem dX11_holds_224 : decode cX11_holds 224 = .ok (.invokevirtual 240, 3) := by decide +kernel
theorem dX11_holds_227 : decode cX11_holds 227 = .ok (.ireturn, 1) := by decide +kernel
theorem dX11_holds_228 : decode cX11_holds 228 = .ok (.aload_n 0, 1) := by decide +kernel
theorem dX11_holds_229 : decode cX11_holds 229 = .ok (.iload_n 2, 1) := by decide +kernel
theorem dX11_holds_230 : decode cX11_holds 230 = .ok (.iload 4, 2) := by decide +kernel
theorem dX11_holds_232 : decode cX11_holds 232 = .ok (.invokevirtual 435, 3) := by decide +kernel
theorem dX11_holds_235 : decode cX11_holds 235 = .ok (.ireturn, 1) := by decide +kernel
theorem dX11_holds_236 : decode cX11_holds 236 = .ok (.aload_n 0, 1) := by decide +kernel
theorem dX11_holds_237 : decode cX11_holds 237 = .ok (.getfield 98, 3) := by decide +kernel
theorem dX11_holds_240 : decode cX11_holds 240 = .ok (.iload_n 3, 1) := by decide +kernel
theorem dX11_holds_241 : decode cX11_holds 241 = .ok (.iaload, 1) := by decide +kernel
theorem dX11_holds_242 : decode cX11_holds 242 = .ok (.bipush 50, 2) := by decide +kernel
theorem dX11_holds_244 : decode cX11_holds 244 = .ok (.isub, 1) := by decide +kernel
theorem dX11_holds_245 : decode cX11_holds 245 = .ok (.istore 6, 2) := by decide +kernel
theorem dX11_holds_247 : decode cX11_holds 247 = .ok (.iload 6, 2) := by decide +kernel
theorem dX11_holds_249 : decode cX11_holds 249 = .ok (.bipush 16, 2) := by decide +kernel
theorem dX11_holds_251 : decode cX11_holds 251 = .ok (.if_icmp .ne 14, 3) := by decide +kernel
theorem dX11_holds_254 : decode cX11_holds 254 = .ok (.aload_n 0, 1) := by decide +kernel
theorem dX11_holds_255 : decode cX11_holds 255 = .ok (.getfield 98, 3) := by decide +kernel
theorem dX11_holds_258 : decode cX11_holds 258 = .ok (.iconst 5, 1) := by decide +kernel
theorem dX11_holds_259 : decode cX11_holds 259 = .ok (.iload_n 2, 1) := by decide +kernel
theorem dX11_holds_260 : decode cX11_holds 260 = .ok (.iadd, 1) := by decide +kernel
theorem dX11_holds_261 : decode cX11_holds 261 = .ok (.iaload, 1) := by decide +kernel
theorem dX11_holds_262 : decode cX11_holds 262 = .ok (.goto 38, 3) := by decide +kernel
theorem dX11_holds_265 : decode cX11_holds 265 = .ok (.iload 6, 2) := by decide +kernel
theorem dX11_holds_267 : decode cX11_holds 267 = .ok (.bipush 17, 2) := by decide +kernel
theorem dX11_holds_269 : decode cX11_holds 269 = .ok (.if_icmp .ne 11, 3) := by decide +kernel
theorem dX11_holds_272 : decode cX11_holds 272 = .ok (.aload_n 0, 1) := by decide +kernel
theorem dX11_holds_273 : decode cX11_holds 273 = .ok (.iload_n 2, 1) := by decide +kernel
theorem dX11_holds_274 : decode cX11_holds 274 = .ok (.invokevirtual 252, 3) := by decide +kernel
theorem dX11_holds_277 : decode cX11_holds 277 = .ok (.goto 23, 3) := by decide +kernel
theorem dX11_holds_280 : decode cX11_holds 280 = .ok (.iload 6, 2) := by decide +kernel
theorem dX11_holds_282 : decode cX11_holds 282 = .ok (.bipush 18, 2) := by decide +kernel
theorem dX11_holds_284 : decode cX11_holds 284 = .ok (.if_icmp .ne 15, 3) := by decide +kernel
theorem dX11_holds_287 : decode cX11_holds 287 = .ok (.aload_n 0, 1) := by decide +kernel
theorem dX11_holds_288 : decode cX11_holds 288 = .ok (.getfield 98, 3) := by decide +kernel
theorem dX11_holds_291 : decode cX11_holds 291 = .ok (.bipush 49, 2) := by decide +kernel
theorem dX11_holds_293 : decode cX11_holds 293 = .ok (.iload_n 2, 1) := by decide +kernel
theorem dX11_holds_294 : decode cX11_holds 294 = .ok (.iadd, 1) := by decide +kernel
theorem dX11_holds_295 : decode cX11_holds 295 = .ok (.iaload, 1) := by decide +kernel
theorem dX11_holds_296 : decode cX11_holds 296 = .ok (.goto 4, 3) := by decide +kernel
theorem dX11_holds_299 : decode cX11_holds 299 = .ok (.iload_n 2, 1) := by decide +kernel
theorem dX11_holds_300 : decode cX11_holds 300 = .ok (.istore 7, 2) := by decide +kernel
theorem dX11_holds_302 : decode cX11_holds 302 = .ok (.aload_n 0, 1) := by decide +kernel
theorem dX11_holds_303 : decode cX11_holds 303 = .ok (.getfield 98, 3) := by decide +kernel
theorem dX11_holds_306 : decode cX11_holds 306 = .ok (.iload_n 3, 1) := by decide +kernel
theorem dX11_holds_307 : decode cX11_holds 307 = .ok (.iconst 3, 1) := by decide +kernel
theorem dX11_holds_308 : decode cX11_holds 308 = .ok (.iadd, 1) := by decide +kernel
theorem dX11_holds_309 : decode cX11_holds 309 = .ok (.iaload, 1) := by decide +kernel
theorem dX11_holds_310 : decode cX11_holds 310 = .ok (.bipush 60, 2) := by decide +kernel
theorem dX11_holds_312 : decode cX11_holds 312 = .ok (.if_icmp .ne 18, 3) := by decide +kernel
theorem dX11_holds_315 : decode cX11_holds 315 = .ok (.iload 7, 2) := by decide +kernel
theorem dX11_holds_317 : decode cX11_holds 317 = .ok (.iload 5, 2) := by decide +kernel
theorem dX11_holds_319 : decode cX11_holds 319 = .ok (.if_icmp .ge 7, 3) := by decide +kernel
theorem dX11_holds_322 : decode cX11_holds 322 = .ok (.iconst 1, 1) := by decide +kernel
theorem dX11_holds_323 : decode cX11_holds 323 = .ok (.goto 47, 3) := by decide +kernel
theorem dX11_holds_326 : decode cX11_holds 326 = .ok (.iconst 0, 1) := by decide +kernel
theorem dX11_holds_327 : decode cX11_holds 327 = .ok (.goto 43, 3) := by decide +kernel
theorem dX11_holds_330 : decode cX11_holds 330 = .ok (.aload_n 0, 1) := by decide +kernel
theorem dX11_holds_331 : decode cX11_holds 331 = .ok (.getfield 98, 3) := by decide +kernel
theorem dX11_holds_334 : decode cX11_holds 334 = .ok (.iload_n 3, 1) := by decide +kernel
theorem dX11_holds_335 : decode cX11_holds 335 = .ok (.iconst 3, 1) := by decide +kernel
theorem dX11_holds_336 : decode cX11_holds 336 = .ok (.iadd, 1) := by decide +kernel
theorem dX11_holds_337 : decode cX11_holds 337 = .ok (.iaload, 1) := by decide +kernel
theorem dX11_holds_338 : decode cX11_holds 338 = .ok (.bipush 61, 2) := by decide +kernel
theorem dX11_holds_340 : decode cX11_holds 340 = .ok (.if_icmp .ne 18, 3) := by decide +kernel
theorem dX11_holds_343 : decode cX11_holds 343 = .ok (.iload 7, 2) := by decide +kernel
theorem dX11_holds_345 : decode cX11_holds 345 = .ok (.iload 5, 2) := by decide +kernel
theorem dX11_holds_347 : decode cX11_holds 347 = .ok (.if_icmp .ne 7, 3) := by decide +kernel
theorem dX11_holds_350 : decode cX11_holds 350 = .ok (.iconst 1, 1) := by decide +kernel
theorem dX11_holds_351 : decode cX11_holds 351 = .ok (.goto 19, 3) := by decide +kernel
theorem dX11_holds_354 : decode cX11_holds 354 = .ok (.iconst 0, 1) := by decide +kernel
theorem dX11_holds_355 : decode cX11_holds 355 = .ok (.goto 15, 3) := by decide +kernel
theorem dX11_holds_358 : decode cX11_holds 358 = .ok (.iload 7, 2) := by decide +kernel
theorem dX11_holds_360 : decode cX11_holds 360 = .ok (.iload 5, 2) := by decide +kernel
theorem dX11_holds_362 : decode cX11_holds 362 = .ok (.if_icmp .le 7, 3) := by decide +kernel
theorem dX11_holds_365 : decode cX11_holds 365 = .ok (.iconst 1, 1) := by decide +kernel
theorem dX11_holds_366 : decode cX11_holds 366 = .ok (.goto 4, 3) := by decide +kernel
theorem dX11_holds_369 : decode cX11_holds 369 = .ok (.iconst 0, 1) := by decide +kernel
theorem dX11_holds_370 : decode cX11_holds 370 = .ok (.ireturn, 1) := by decide +kernel
def fX11_holds_J300 (N : Nat) (rf : Nat → Int32 → Int32 → Mem → Option (Int32 × Mem)) (v0 : Nat) (v3 : Int32) (v5 : Int32) (s0 : Int32) (M : Mem) : Option (Int32 × Mem) := ((fR M 11 v0 14).bind fun x303 => ((aI M x303 (v3 + 3)).bind fun x309 => (if x309 = 60 then (if v5 ≤ s0 then some (0, M) else some (1, M)) else ((fR M 11 v0 14).bind fun x331 => ((aI M x331 (v3 + 3)).bind fun x337 => (if x337 = 61 then (if s0 = v5 then some (1, M) else some (0, M)) else (if s0 ≤ v5 then some (0, M) else some (1, M))))))))
def fX11_holds_b (N : Nat) (rf : Nat → Int32 → Int32 → Mem → Option (Int32 × Mem)) (v0 : Nat) (v1 : Int32) (v2 : Int32) (M : Mem) : Option (Int32 × Mem) := ((fR M 11 v0 14).bind fun x9 => ((aI M x9 ((201 + (4 * v1)) + 1)).bind fun x15 => ((fR M 11 v0 14).bind fun x19 => ((aI M x19 ((201 + (4 * v1)) + 2)).bind fun x25 => ((fR M 11 v0 14).bind fun x29 => ((aI M x29 (201 + (4 * v1))).bind fun x33 => (if x33 = 1 then (if mK M v0 = 12 then ((rf v0 x15 v2 M).bind fun (x112, M112) => (if x112 = 0 then some (1, M112) else some (0, M112))) else none) else (if x33 = 2 then (if mK M v0 = 12 then ((rf v0 x15 v2 M).bind fun (x128, M128) => (if x128 = 0 then some (0, M128) else (if mK M128 v0 = 12 then ((rf v0 x25 v2 M128).bind fun (x138, M138) => (if x138 = 0 then some (0, M138) else some (1, M138))) else none))) else none) else (if x33 = 3 then (if mK M v0 = 12 then ((rf v0 x15 v2 M).bind fun (x154, M154) => (if x154 = 0 then (if mK M154 v0 = 12 then ((rf v0 x25 v2 M154).bind fun (x164, M164) => (if x164 = 0 then some (0, M164) else some (1, M164))) else none) else some (1, M154))) else none) else (if x33 = 61 then (if mK M v0 = 12 then ((fX11_signsOf N v0 v2 M).bind fun (x178, M178) => (if x178 = 0 then some (1, M178) else some (0, M178))) else none) else (if x33 = 62 then (if mK M v0 = 12 then ((fX11_signsOf N v0 v2 M).bind fun (x192, M192) => ((fR M192 11 v0 14).bind fun x196 => ((aI M192 x196 (11 + v2)).bind fun x203 => (if x192 = x203 then some (1, M192) else some (0, M192))))) else none) else (if x33 = 63 then (if mK M v0 = 12 then ((fX11_isWashed N v0 v2 0 M).bind fun (x216, M216) => (if vp_nar .boolean x216 = x216 then some (x216, M216) else none)) else none) else (if x33 = 64 then (if mK M v0 = 12 then ((fX11_isReadIn N v0 x15 v2 M).bind fun (x224, M224) => (if vp_nar .boolean x224 = x224 then some (x224, M224) else none)) else none) else (if x33 = 65 then (if mK M v0 = 12 then ((fX11_hasHand N v0 v2 x15 M).bind fun (x232, M232) => (if vp_nar .boolean x232 = x232 then some (x232, M232) else none)) else none) else ((fR M 11 v0 14).bind fun x237 => ((aI M x237 (201 + (4 * v1))).bind fun x241 => (if (x241 - 50) = 16 then ((fR M 11 v0 14).bind fun x255 => ((aI M x255 (5 + v2)).bind fun x261 => fX11_holds_J300 N rf v0 (201 + (4 * v1)) x25 x261 M)) else (if (x241 - 50) = 17 then (if mK M v0 = 12 then ((fX11_signsOf N v0 v2 M).bind fun (x274, M274) => fX11_holds_J300 N rf v0 (201 + (4 * v1)) x25 x274 M274) else none) else (if (x241 - 50) = 18 then ((fR M 11 v0 14).bind fun x288 => ((aI M x288 (49 + v2)).bind fun x295 => fX11_holds_J300 N rf v0 (201 + (4 * v1)) x25 x295 M)) else fX11_holds_J300 N rf v0 (201 + (4 * v1)) x25 v2 M)))))))))))))))))))
set_option maxHeartbeats 4000000 in
set_option maxRecDepth 100000 in
theorem kb_X11_holds (l : Launch) (b : Nat) (D : va_G) (cy : Nat → ClassId) (N n0 : Nat) (hn0 : 6 ≤ n0) (rf : Nat → Int32 → Int32 → Mem → Option (Int32 × Mem)) (hrf_X11_holds : ∀ (v0 : Nat) (v1 : Int32) (v2 : Int32) (M : Mem) (r : Int32) (Mf : Mem), rf v0 v1 v2 M = some (r, Mf) → Ct l yX11_holds cX11_holds 8 (some .boolean) n0 0 0 b D cy [.ref (b + v0), .int v1, .int v2] M (some (.int r)) Mf) (v0 : Nat) (v1 : Int32) (v2 : Int32) (M : Mem) (r : Int32) (Mf : Mem) (h : fX11_holds_b N rf v0 v1 v2 M = some (r, Mf)) : Ct l yX11_holds cX11_holds 8 (some .boolean) (n0 + 1) 0 0 b D cy [.ref (b + v0), .int v1, .int v2] M (some (.int r)) Mf := by
  refine Ct_of (own := RX11) (by decide) rfl (Nat.le_of_ble_eq_true rfl) ?_
  intro p e s m args below meth c F hr hl hmn
  unfold fX11_holds_b at h
  have J300 : ∀ (v0 : Nat) (v3 : Int32) (v5 : Int32) (s0 : Int32) (M : Mem), fX11_holds_J300 N rf v0 v3 v5 s0 M = some (r, Mf) → X p l e ({ frames := n0 + 1, cells := 0, slots := 0, locals := 100 * (n0 + 1) }) s m args below meth c (MQ below (Qm b D cy (some (.int r)) Mf) args s 0 0 (fun q => b ≤ q)) 8 b D cy 0 0 M 300 [(0, .ref (b + v0)), (3, .int v3), (5, .int v5)] [.int s0] := by
    intro v0 v3 v5 s0 M h
    unfold fX11_holds_J300 at h
    refine x_istore F (lv' := [(7, .int s0), (0, .ref (b + v0)), (3, .int v3), (5, .int v5)]) dX11_holds_300 (by decide) rfl ?_
    refine x_aload_n F dX11_holds_302 rfl 1 rfl ?_
    obtain ⟨x303, c303, h⟩ := bdS h
    refine x_getR F (ci := 11) (C := RX11) (T := TX11) (N := 45) rfl ⟨by decide, rfl⟩ inU11 14 (by decide) (fun _ _ _ => rfl) wl_913 c303 dX11_holds_303 ?_
    refine x_iload_n F dX11_holds_306 rfl 2 rfl ?_
    refine x_iconst F (v := 3) dX11_holds_307 (by decide) ?_
    refine x_iadd F dX11_holds_308 ?_
    obtain ⟨x309, c309, h⟩ := bdS h
    refine x_aI F c309 dX11_holds_309 ?_
    refine x_bipush F (v := 60) dX11_holds_310 (by decide) ?_
    refine x_icmp_ne F (tgt := 330) dX11_holds_312 (by decide) (fun c312 => ?_) (fun c312 => ?_)
    · rw [if_neg c312] at h
      refine x_aload_n F dX11_holds_330 rfl 1 rfl ?_
      obtain ⟨x331, c331, h⟩ := bdS h
      refine x_getR F (ci := 11) (C := RX11) (T := TX11) (N := 45) rfl ⟨by decide, rfl⟩ inU11 14 (by decide) (fun _ _ _ => rfl) wl_913 c331 dX11_holds_331 ?_
      refine x_iload_n F dX11_holds_334 rfl 2 rfl ?_
      refine x_iconst F (v := 3) dX11_holds_335 (by decide) ?_
      refine x_iadd F dX11_holds_336 ?_
      obtain ⟨x337, c337, h⟩ := bdS h
      refine x_aI F c337 dX11_holds_337 ?_
      refine x_bipush F (v := 61) dX11_holds_338 (by decide) ?_
      refine x_icmp_ne F (tgt := 358) dX11_holds_340 (by decide) (fun c340 => ?_) (fun c340 => ?_)
      · rw [if_neg c340] at h
        refine x_iload F dX11_holds_358 0 rfl ?_
        refine x_iload F dX11_holds_360 3 rfl ?_
        refine x_icmp_le F (tgt := 369) dX11_holds_362 (by decide) (fun c362 => ?_) (fun c362 => ?_)
        · rw [if_pos c362] at h
          refine x_iconst F (v := 0) dX11_holds_369 (by decide) ?_
          obtain ⟨rfl, rfl⟩ := retS h
          exact x_zret F hr hl (by decide) dX11_holds_370
        · rw [if_neg c362] at h
          refine x_iconst F (v := 1) dX11_holds_365 (by decide) ?_
          refine x_goto F (tgt := 370) dX11_holds_366 (by decide) ?_
          obtain ⟨rfl, rfl⟩ := retS h
          exact x_zret F hr hl (by decide) dX11_holds_370
      · rw [if_pos c340] at h
        refine x_iload F dX11_holds_343 0 rfl ?_
        refine x_iload F dX11_holds_345 3 rfl ?_
        refine x_icmp_ne F (tgt := 354) dX11_holds_347 (by decide) (fun c347 => ?_) (fun c347 => ?_)
        · rw [if_neg c347] at h
          refine x_iconst F (v := 0) dX11_holds_354 (by decide) ?_
          refine x_goto F (tgt := 370) dX11_holds_355 (by decide) ?_
          obtain ⟨rfl, rfl⟩ := retS h
          exact x_zret F hr hl (by decide) dX11_holds_370
        · rw [if_pos c347] at h
          refine x_iconst F (v := 1) dX11_holds_350 (by decide) ?_
          refine x_goto F (tgt := 370) dX11_holds_351 (by decide) ?_
          obtain ⟨rfl, rfl⟩ := retS h
          exact x_zret F hr hl (by decide) dX11_holds_370
    · rw [if_pos c312] at h
      refine x_iload F dX11_holds_315 0 rfl ?_
      refine x_iload F dX11_holds_317 3 rfl ?_
      refine x_icmp_ge F (tgt := 326) dX11_holds_319 (by decide) (fun c319 => ?_) (fun c319 => ?_)
      · rw [if_pos c319] at h
        refine x_iconst F (v := 0) dX11_holds_326 (by decide) ?_
        refine x_goto F (tgt := 370) dX11_holds_327 (by decide) ?_
        obtain ⟨rfl, rfl⟩ := retS h
        exact x_zret F hr hl (by decide) dX11_holds_370
      · rw [if_neg c319] at h
        refine x_iconst F (v := 1) dX11_holds_322 (by decide) ?_
        refine x_goto F (tgt := 370) dX11_holds_323 (by decide) ?_
        obtain ⟨rfl, rfl⟩ := retS h
        exact x_zret F hr hl (by decide) dX11_holds_370
  show X p l e ({ frames := n0 + 1, cells := 0, slots := 0, locals := 100 * (n0 + 1) }) s m args below meth c (MQ below (Qm b D cy (some (.int r)) Mf) args s 0 0 (fun q => b ≤ q)) 8 b D cy 0 0 M 0 [(0, .ref (b + v0)), (1, .int v1), (2, .int v2)] []
  refine x_sipush F (v := 201) dX11_holds_0 (by decide) ?_
  refine x_iconst F (v := 4) dX11_holds_3 (by decide) ?_
  refine x_iload_n F dX11_holds_4 rfl 1 rfl ?_
  refine x_imul F dX11_holds_5 ?_
  refine x_iadd F dX11_holds_6 ?_
  refine x_istore_n F (lv' := [(3, .int (201 + (4 * v1))), (0, .ref (b + v0)), (1, .int v1), (2, .int v2)]) dX11_holds_7 rfl (by decide) rfl ?_
  refine x_aload_n F dX11_holds_8 rfl 1 rfl ?_
  obtain ⟨x9, c9, h⟩ := bdS h
  refine x_getR F (ci := 11) (C := RX11) (T := TX11) (N := 45) rfl ⟨by decide, rfl⟩ inU11 14 (by decide) (fun _ _ _ => rfl) wl_913 c9 dX11_holds_9 ?_
  refine x_iload_n F dX11_holds_12 rfl 0 rfl ?_
  refine x_iconst F (v := 1) dX11_holds_13 (by decide) ?_
  refine x_iadd F dX11_holds_14 ?_
  obtain ⟨x15, c15, h⟩ := bdS h
  refine x_aI F c15 dX11_holds_15 ?_
  refine x_istore F (lv' := [(4, .int x15), (3, .int (201 + (4 * v1))), (0, .ref (b + v0)), (1, .int v1), (2, .int v2)]) dX11_holds_16 (by decide) rfl ?_
  refine x_aload_n F dX11_holds_18 rfl 2 rfl ?_
  obtain ⟨x19, c19, h⟩ := bdS h
  refine x_getR F (ci := 11) (C := RX11) (T := TX11) (N := 45) rfl ⟨by decide, rfl⟩ inU11 14 (by decide) (fun _ _ _ => rfl) wl_913 c19 dX11_holds_19 ?_
  refine x_iload_n F dX11_holds_22 rfl 1 rfl ?_
  refine x_iconst F (v := 2) dX11_holds_23 (by decide) ?_
  refine x_iadd F dX11_holds_24 ?_
  obtain ⟨x25, c25, h⟩ := bdS h
  refine x_aI F c25 dX11_holds_25 ?_
  refine x_istore F (lv' := [(5, .int x25), (4, .int x15), (3, .int (201 + (4 * v1))), (0, .ref (b + v0)), (1, .int v1), (2, .int v2)]) dX11_holds_26 (by decide) rfl ?_
  refine x_aload_n F dX11_holds_28 rfl 3 rfl ?_
  obtain ⟨x29, c29, h⟩ := bdS h
  refine x_getR F (ci := 11) (C := RX11) (T := TX11) (N := 45) rfl ⟨by decide, rfl⟩ inU11 14 (by decide) (fun _ _ _ => rfl) wl_913 c29 dX11_holds_29 ?_
  refine x_iload_n F dX11_holds_32 rfl 2 rfl ?_
  obtain ⟨x33, c33, h⟩ := bdS h
  refine x_aI F c33 dX11_holds_33 ?_
  by_cases c34_1 : x33 = 1
  · rw [if_pos c34_1] at h
    refine x_lookup F (off := 74) (tgt := 108) dX11_holds_34 (by decide) (by rw [c34_1]; decide) (by decide) ?_
    refine x_aload_n F dX11_holds_108 rfl 3 rfl ?_
    refine x_iload F dX11_holds_109 1 rfl ?_
    refine x_iload_n F dX11_holds_111 rfl 5 rfl ?_
    obtain ⟨k112, h⟩ := gdS h
    obtain ⟨⟨x112, M112⟩, c112, h⟩ := bdS h
    dsimp only at h
    refine x_callV F (As := [.int x15, .int v2]) (rest := []) (res := (some (.int x112))) (ci := 11) (q := (RX11, TX11, 45)) rfl (by decide) k112 (hrf_X11_holds v0 x15 v2 M _ _ c112) wl_1263 wl_1264 wl_1265 wl_854 wl_1269 hd_X11_holds ⟨by show n0 + 1 ≤ n0 + 1; omega, by show 8 + (8 + 11) + 100 * n0 ≤ 100 * (n0 + 1); omega⟩ ⟨Nat.le_refl _, Nat.le_refl _⟩ (Nat.le_of_ble_eq_true rfl) rfl dX11_holds_112 ?_
    refine x_if_ne F (tgt := 122) dX11_holds_115 (by decide) (fun c115 => ?_) (fun c115 => ?_)
    · rw [if_neg c115] at h
      refine x_iconst F (v := 0) dX11_holds_122 (by decide) ?_
      obtain ⟨rfl, rfl⟩ := retS h
      exact x_zret F hr hl (by decide) dX11_holds_123
    · rw [if_pos c115] at h
      refine x_iconst F (v := 1) dX11_holds_118 (by decide) ?_
      refine x_goto F (tgt := 123) dX11_holds_119 (by decide) ?_
      obtain ⟨rfl, rfl⟩ := retS h
      exact x_zret F hr hl (by decide) dX11_holds_123
  rw [if_neg c34_1] at h
  by_cases c34_2 : x33 = 2
  · rw [if_pos c34_2] at h
    refine x_lookup F (off := 90) (tgt := 124) dX11_holds_34 (by decide) (by rw [c34_2]; decide) (by decide) ?_
    refine x_aload_n F dX11_holds_124 rfl 3 rfl ?_
    refine x_iload F dX11_holds_125 1 rfl ?_
    refine x_iload_n F dX11_holds_127 rfl 5 rfl ?_
    obtain ⟨k128, h⟩ := gdS h
    obtain ⟨⟨x128, M128⟩, c128, h⟩ := bdS h
    dsimp only at h
    refine x_callV F (As := [.int x15, .int v2]) (rest := []) (res := (some (.int x128))) (ci := 11) (q := (RX11, TX11, 45)) rfl (by decide) k128 (hrf_X11_holds v0 x15 v2 M _ _ c128) wl_1263 wl_1264 wl_1265 wl_854 wl_1269 hd_X11_holds ⟨by show n0 + 1 ≤ n0 + 1; omega, by show 8 + (8 + 11) + 100 * n0 ≤ 100 * (n0 + 1); omega⟩ ⟨Nat.le_refl _, Nat.le_refl _⟩ (Nat.le_of_ble_eq_true rfl) rfl dX11_holds_128 ?_
    refine x_if_eq F (tgt := 148) dX11_holds_131 (by decide) (fun c131 => ?_) (fun c131 => ?_)
    · rw [if_pos c131] at h
      refine x_iconst F (v := 0) dX11_holds_148 (by decide) ?_
      obtain ⟨rfl, rfl⟩ := retS h
      exact x_zret F hr hl (by decide) dX11_holds_149
    · rw [if_neg c131] at h
      refine x_aload_n F dX11_holds_134 rfl 3 rfl ?_
      refine x_iload F dX11_holds_135 0 rfl ?_
      refine x_iload_n F dX11_holds_137 rfl 5 rfl ?_
      obtain ⟨k138, h⟩ := gdS h
      obtain ⟨⟨x138, M138⟩, c138, h⟩ := bdS h
      dsimp only at h
      refine x_callV F (As := [.int x25, .int v2]) (rest := []) (res := (some (.int x138))) (ci := 11) (q := (RX11, TX11, 45)) rfl (by decide) k138 (hrf_X11_holds v0 x25 v2 M128 _ _ c138) wl_1263 wl_1264 wl_1265 wl_854 wl_1269 hd_X11_holds ⟨by show n0 + 1 ≤ n0 + 1; omega, by show 8 + (8 + 11) + 100 * n0 ≤ 100 * (n0 + 1); omega⟩ ⟨Nat.le_refl _, Nat.le_refl _⟩ (Nat.le_of_ble_eq_true rfl) rfl dX11_holds_138 ?_
      refine x_if_eq F (tgt := 148) dX11_holds_141 (by decide) (fun c141 => ?_) (fun c141 => ?_)
      · rw [if_pos c141] at h
        refine x_iconst F (v := 0) dX11_holds_148 (by decide) ?_
        obtain ⟨rfl, rfl⟩ := retS h
        exact x_zret F hr hl (by decide) dX11_holds_149
      · rw [if_neg c141] at h
        refine x_iconst F (v := 1) dX11_holds_144 (by decide) ?_
        refine x_goto F (tgt := 149) dX11_holds_145 (by decide) ?_
        obtain ⟨rfl, rfl⟩ := retS h
        exact x_zret F hr hl (by decide) dX11_holds_149
  rw [if_neg c34_2] at h
  by_cases c34_3 : x33 = 3
  · rw [if_pos c34_3] at h
    refine x_lookup F (off := 116) (tgt := 150) dX11_holds_34 (by decide) (by rw [c34_3]; decide) (by decide) ?_
    refine x_aload_n F dX11_holds_150 rfl 3 rfl ?_
    refine x_iload F dX11_holds_151 1 rfl ?_
    refine x_iload_n F dX11_holds_153 rfl 5 rfl ?_
    obtain ⟨k154, h⟩ := gdS h
    obtain ⟨⟨x154, M154⟩, c154, h⟩ := bdS h
    dsimp only at h
    refine x_callV F (As := [.int x15, .int v2]) (rest := []) (res := (some (.int x154))) (ci := 11) (q := (RX11, TX11, 45)) rfl (by decide) k154 (hrf_X11_holds v0 x15 v2 M _ _ c154) wl_1263 wl_1264 wl_1265 wl_854 wl_1269 hd_X11_holds ⟨by show n0 + 1 ≤ n0 + 1; omega, by show 8 + (8 + 11) + 100 * n0 ≤ 100 * (n0 + 1); omega⟩ ⟨Nat.le_refl _, Nat.le_refl _⟩ (Nat.le_of_ble_eq_true rfl) rfl dX11_holds_154 ?_
    refine x_if_ne F (tgt := 170) dX11_holds_157 (by decide) (fun c157 => ?_) (fun c157 => ?_)
    · rw [if_neg c157] at h
      refine x_iconst F (v := 1) dX11_holds_170 (by decide) ?_
      refine x_goto F (tgt := 175) dX11_holds_171 (by decide) ?_
      obtain ⟨rfl, rfl⟩ := retS h
      exact x_zret F hr hl (by decide) dX11_holds_175
    · rw [if_pos c157] at h
      refine x_aload_n F dX11_holds_160 rfl 3 rfl ?_
      refine x_iload F dX11_holds_161 0 rfl ?_
      refine x_iload_n F dX11_holds_163 rfl 5 rfl ?_
      obtain ⟨k164, h⟩ := gdS h
      obtain ⟨⟨x164, M164⟩, c164, h⟩ := bdS h
      dsimp only at h
      refine x_callV F (As := [.int x25, .int v2]) (rest := []) (res := (some (.int x164))) (ci := 11) (q := (RX11, TX11, 45)) rfl (by decide) k164 (hrf_X11_holds v0 x25 v2 M154 _ _ c164) wl_1263 wl_1264 wl_1265 wl_854 wl_1269 hd_X11_holds ⟨by show n0 + 1 ≤ n0 + 1; omega, by show 8 + (8 + 11) + 100 * n0 ≤ 100 * (n0 + 1); omega⟩ ⟨Nat.le_refl _, Nat.le_refl _⟩ (Nat.le_of_ble_eq_true rfl) rfl dX11_holds_164 ?_
      refine x_if_eq F (tgt := 174) dX11_holds_167 (by decide) (fun c167 => ?_) (fun c167 => ?_)
      · rw [if_pos c167] at h
        refine x_iconst F (v := 0) dX11_holds_174 (by decide) ?_
        obtain ⟨rfl, rfl⟩ := retS h
        exact x_zret F hr hl (by decide) dX11_holds_175
      · rw [if_neg c167] at h
        refine x_iconst F (v := 1) dX11_holds_170 (by decide) ?_
        refine x_goto F (tgt := 175) dX11_holds_171 (by decide) ?_
        obtain ⟨rfl, rfl⟩ := retS h
        exact x_zret F hr hl (by decide) dX11_holds_175
  rw [if_neg c34_3] at h
  by_cases c34_61 : x33 = 61
  · rw [if_pos c34_61] at h
    refine x_lookup F (off := 142) (tgt := 176) dX11_holds_34 (by decide) (by rw [c34_61]; decide) (by decide) ?_
    refine x_aload_n F dX11_holds_176 rfl 3 rfl ?_
    refine x_iload_n F dX11_holds_177 rfl 5 rfl ?_
    obtain ⟨k178, h⟩ := gdS h
    obtain ⟨⟨x178, M178⟩, c178, h⟩ := bdS h
    dsimp only at h
    refine x_callV F (As := [.int v2]) (rest := []) (res := (some (.int x178))) (ci := 11) (q := (RX11, TX11, 45)) rfl (by decide) k178 (k_X11_signsOf l b D cy N v0 v2 M _ _ c178) wl_1045 wl_1046 wl_1047 wl_854 wl_1033 hd_X11_signsOf ⟨by show 2 + 1 ≤ n0 + 1; omega, by show 8 + (4 + 11) + 100 * 2 ≤ 100 * (n0 + 1); omega⟩ ⟨Nat.le_refl _, Nat.le_refl _⟩ (Nat.le_of_ble_eq_true rfl) rfl dX11_holds_178 ?_
    refine x_if_ne F (tgt := 188) dX11_holds_181 (by decide) (fun c181 => ?_) (fun c181 => ?_)
    · rw [if_neg c181] at h
      refine x_iconst F (v := 0) dX11_holds_188 (by decide) ?_
      obtain ⟨rfl, rfl⟩ := retS h
      exact x_zret F hr hl (by decide) dX11_holds_189
    · rw [if_pos c181] at h
      refine x_iconst F (v := 1) dX11_holds_184 (by decide) ?_
      refine x_goto F (tgt := 189) dX11_holds_185 (by decide) ?_
      obtain ⟨rfl, rfl⟩ := retS h
      exact x_zret F hr hl (by decide) dX11_holds_189
  rw [if_neg c34_61] at h
  by_cases c34_62 : x33 = 62
  · rw [if_pos c34_62] at h
    refine x_lookup F (off := 156) (tgt := 190) dX11_holds_34 (by decide) (by rw [c34_62]; decide) (by decide) ?_
    refine x_aload_n F dX11_holds_190 rfl 3 rfl ?_
    refine x_iload_n F dX11_holds_191 rfl 5 rfl ?_
    obtain ⟨k192, h⟩ := gdS h
    obtain ⟨⟨x192, M192⟩, c192, h⟩ := bdS h
    dsimp only at h
    refine x_callV F (As := [.int v2]) (rest := []) (res := (some (.int x192))) (ci := 11) (q := (RX11, TX11, 45)) rfl (by decide) k192 (k_X11_signsOf l b D cy N v0 v2 M _ _ c192) wl_1045 wl_1046 wl_1047 wl_854 wl_1033 hd_X11_signsOf ⟨by show 2 + 1 ≤ n0 + 1; omega, by show 8 + (4 + 11) + 100 * 2 ≤ 100 * (n0 + 1); omega⟩ ⟨Nat.le_refl _, Nat.le_refl _⟩ (Nat.le_of_ble_eq_true rfl) rfl dX11_holds_192 ?_
    refine x_aload_n F dX11_holds_195 rfl 3 rfl ?_
    obtain ⟨x196, c196, h⟩ := bdS h
    refine x_getR F (ci := 11) (C := RX11) (T := TX11) (N := 45) rfl ⟨by decide, rfl⟩ inU11 14 (by decide) (fun _ _ _ => rfl) wl_913 c196 dX11_holds_196 ?_
    refine x_bipush F (v := 11) dX11_holds_199 (by decide) ?_
    refine x_iload_n F dX11_holds_201 rfl 5 rfl ?_
    refine x_iadd F dX11_holds_202 ?_
    obtain ⟨x203, c203, h⟩ := bdS h
    refine x_aI F c203 dX11_holds_203 ?_
    refine x_icmp_ne F (tgt := 211) dX11_holds_204 (by decide) (fun c204 => ?_) (fun c204 => ?_)
    · rw [if_neg c204] at h
      refine x_iconst F (v := 0) dX11_holds_211 (by decide) ?_
      obtain ⟨rfl, rfl⟩ := retS h
      exact x_zret F hr hl (by decide) dX11_holds_212
    · rw [if_pos c204] at h
      refine x_iconst F (v := 1) dX11_holds_207 (by decide) ?_
      refine x_goto F (tgt := 212) dX11_holds_208 (by decide) ?_
      obtain ⟨rfl, rfl⟩ := retS h
      exact x_zret F hr hl (by decide) dX11_holds_212
  rw [if_neg c34_62] at h
  by_cases c34_63 : x33 = 63
  · rw [if_pos c34_63] at h
    refine x_lookup F (off := 179) (tgt := 213) dX11_holds_34 (by decide) (by rw [c34_63]; decide) (by decide) ?_
    refine x_aload_n F dX11_holds_213 rfl 3 rfl ?_
    refine x_iload_n F dX11_holds_214 rfl 5 rfl ?_
    refine x_iconst F (v := 0) dX11_holds_215 (by decide) ?_
    obtain ⟨k216, h⟩ := gdS h
    obtain ⟨⟨x216, M216⟩, c216, h⟩ := bdS h
    dsimp only at h
    refine x_callV F (As := [.int v2, .int 0]) (rest := []) (res := (some (.int x216))) (ci := 11) (q := (RX11, TX11, 45)) rfl (by decide) k216 (k_X11_isWashed l b D cy N v0 v2 0 M _ _ c216) wl_1094 wl_1095 wl_1096 wl_854 wl_1035 hd_X11_isWashed ⟨by show 2 + 1 ≤ n0 + 1; omega, by show 8 + (3 + 11) + 100 * 2 ≤ 100 * (n0 + 1); omega⟩ ⟨Nat.le_refl _, Nat.le_refl _⟩ (Nat.le_of_ble_eq_true rfl) rfl dX11_holds_216 ?_
    obtain ⟨c219, h⟩ := gdS h
    obtain ⟨rfl, rfl⟩ := retS h
    exact x_zret F hr hl c219 dX11_holds_219
  rw [if_neg c34_63] at h
  by_cases c34_64 : x33 = 64
  · rw [if_pos c34_64] at h
    refine x_lookup F (off := 186) (tgt := 220) dX11_holds_34 (by decide) (by rw [c34_64]; decide) (by decide) ?_
    refine x_aload_n F dX11_holds_220 rfl 3 rfl ?_
    refine x_iload F dX11_holds_221 1 rfl ?_
    refine x_iload_n F dX11_holds_223 rfl 5 rfl ?_
    obtain ⟨k224, h⟩ := gdS h
    obtain ⟨⟨x224, M224⟩, c224, h⟩ := bdS h
    dsimp only at h
    refine x_callV F (As := [.int x15, .int v2]) (rest := []) (res := (some (.int x224))) (ci := 11) (q := (RX11, TX11, 45)) rfl (by decide) k224 (k_X11_isReadIn l b D cy N v0 x15 v2 M _ _ c224) wl_1029 wl_1030 wl_1031 wl_854 wl_1028 hd_X11_isReadIn ⟨by show 5 + 1 ≤ n0 + 1; omega, by show 8 + (3 + 11) + 100 * 5 ≤ 100 * (n0 + 1); omega⟩ ⟨Nat.le_refl _, Nat.le_refl _⟩ (Nat.le_of_ble_eq_true rfl) rfl dX11_holds_224 ?_
    obtain ⟨c227, h⟩ := gdS h
    obtain ⟨rfl, rfl⟩ := retS h
    exact x_zret F hr hl c227 dX11_holds_227
  rw [if_neg c34_64] at h
  by_cases c34_65 : x33 = 65
  · rw [if_pos c34_65] at h
    refine x_lookup F (off := 194) (tgt := 228) dX11_holds_34 (by decide) (by rw [c34_65]; decide) (by decide) ?_
    refine x_aload_n F dX11_holds_228 rfl 3 rfl ?_
    refine x_iload_n F dX11_holds_229 rfl 5 rfl ?_
    refine x_iload F dX11_holds_230 1 rfl ?_
    obtain ⟨k232, h⟩ := gdS h
    obtain ⟨⟨x232, M232⟩, c232, h⟩ := bdS h
    dsimp only at h
    refine x_callV F (As := [.int v2, .int x15]) (rest := []) (res := (some (.int x232))) (ci := 11) (q := (RX11, TX11, 45)) rfl (by decide) k232 (k_X11_hasHand l b D cy N v0 v2 x15 M _ _ c232) wl_1266 wl_1267 wl_1268 wl_854 wl_1225 hd_X11_hasHand ⟨by show 1 + 1 ≤ n0 + 1; omega, by show 8 + (4 + 11) + 100 * 1 ≤ 100 * (n0 + 1); omega⟩ ⟨Nat.le_refl _, Nat.le_refl _⟩ (Nat.le_of_ble_eq_true rfl) rfl dX11_holds_232 ?_
    obtain ⟨c235, h⟩ := gdS h
    obtain ⟨rfl, rfl⟩ := retS h
    exact x_zret F hr hl c235 dX11_holds_235
  rw [if_neg c34_65] at h
  refine x_lookup F (off := 202) (tgt := 236) dX11_holds_34 (by decide) (by rw [lv_osw c34_1 (by decide), lv_osw c34_2 (by decide), lv_osw c34_3 (by decide), lv_osw c34_61 (by decide), lv_osw c34_62 (by decide), lv_osw c34_63 (by decide), lv_osw c34_64 (by decide), lv_osw c34_65 (by decide)]; rfl) (by decide) ?_
  refine x_aload_n F dX11_holds_236 rfl 3 rfl ?_
  obtain ⟨x237, c237, h⟩ := bdS h
  refine x_getR F (ci := 11) (C := RX11) (T := TX11) (N := 45) rfl ⟨by decide, rfl⟩ inU11 14 (by decide) (fun _ _ _ => rfl) wl_913 c237 dX11_holds_237 ?_
  refine x_iload_n F dX11_holds_240 rfl 2 rfl ?_
  obtain ⟨x241, c241, h⟩ := bdS h
  refine x_aI F c241 dX11_holds_241 ?_
  refine x_bipush F (v := 50) dX11_holds_242 (by decide) ?_
  refine x_isub F dX11_holds_244 ?_
  refine x_istore F (lv' := [(6, .int (x241 - 50)), (5, .int x25), (4, .int x15), (3, .int (201 + (4 * v1))), (0, .ref (b + v0)), (1, .int v1), (2, .int v2)]) dX11_holds_245 (by decide) rfl ?_
  refine x_iload F dX11_holds_247 0 rfl ?_
  refine x_bipush F (v := 16) dX11_holds_249 (by decide) ?_
  refine x_icmp_ne F (tgt := 265) dX11_holds_251 (by decide) (fun c251 => ?_) (fun c251 => ?_)
  · rw [if_neg c251] at h
    refine x_iload F dX11_holds_265 0 rfl ?_
    refine x_bipush F (v := 17) dX11_holds_267 (by decide) ?_
    refine x_icmp_ne F (tgt := 280) dX11_holds_269 (by decide) (fun c269 => ?_) (fun c269 => ?_)
    · rw [if_neg c269] at h
      refine x_iload F dX11_holds_280 0 rfl ?_
      refine x_bipush F (v := 18) dX11_holds_282 (by decide) ?_
      refine x_icmp_ne F (tgt := 299) dX11_holds_284 (by decide) (fun c284 => ?_) (fun c284 => ?_)
      · rw [if_neg c284] at h
        refine x_iload_n F dX11_holds_299 rfl 6 rfl ?_
        refine x_sub [4, 3, 1] rfl ?_
        exact J300 v0 (201 + (4 * v1)) x25 v2 M h
      · rw [if_pos c284] at h
        refine x_aload_n F dX11_holds_287 rfl 4 rfl ?_
        obtain ⟨x288, c288, h⟩ := bdS h
        refine x_getR F (ci := 11) (C := RX11) (T := TX11) (N := 45) rfl ⟨by decide, rfl⟩ inU11 14 (by decide) (fun _ _ _ => rfl) wl_913 c288 dX11_holds_288 ?_
        refine x_bipush F (v := 49) dX11_holds_291 (by decide) ?_
        refine x_iload_n F dX11_holds_293 rfl 6 rfl ?_
        refine x_iadd F dX11_holds_294 ?_
        obtain ⟨x295, c295, h⟩ := bdS h
        refine x_aI F c295 dX11_holds_295 ?_
        refine x_goto F (tgt := 300) dX11_holds_296 (by decide) ?_
        refine x_sub [4, 3, 1] rfl ?_
        exact J300 v0 (201 + (4 * v1)) x25 x295 M h
    · rw [if_pos c269] at h
      refine x_aload_n F dX11_holds_272 rfl 4 rfl ?_
      refine x_iload_n F dX11_holds_273 rfl 6 rfl ?_
      obtain ⟨k274, h⟩ := gdS h
      obtain ⟨⟨x274, M274⟩, c274, h⟩ := bdS h
      dsimp only at h
      refine x_callV F (As := [.int v2]) (rest := []) (res := (some (.int x274))) (ci := 11) (q := (RX11, TX11, 45)) rfl (by decide) k274 (k_X11_signsOf l b D cy N v0 v2 M _ _ c274) wl_1045 wl_1046 wl_1047 wl_854 wl_1033 hd_X11_signsOf ⟨by show 2 + 1 ≤ n0 + 1; omega, by show 8 + (4 + 11) + 100 * 2 ≤ 100 * (n0 + 1); omega⟩ ⟨Nat.le_refl _, Nat.le_refl _⟩ (Nat.le_of_ble_eq_true rfl) rfl dX11_holds_274 ?_
      refine x_goto F (tgt := 300) dX11_holds_277 (by decide) ?_
      refine x_sub [4, 3, 1] rfl ?_
      exact J300 v0 (201 + (4 * v1)) x25 x274 M274 h
  · rw [if_pos c251] at h
    refine x_aload_n F dX11_holds_254 rfl 4 rfl ?_
    obtain ⟨x255, c255, h⟩ := bdS h
    refine x_getR F (ci := 11) (C := RX11) (T := TX11) (N := 45) rfl ⟨by decide, rfl⟩ inU11 14 (by decide) (fun _ _ _ => rfl) wl_913 c255 dX11_holds_255 ?_
    refine x_iconst F (v := 5) dX11_holds_258 (by decide) ?_
    refine x_iload_n F dX11_holds_259 rfl 6 rfl ?_
    refine x_iadd F dX11_holds_260 ?_
    obtain ⟨x261, c261, h⟩ := bdS h
    refine x_aI F c261 dX11_holds_261 ?_
    refine x_goto F (tgt := 300) dX11_holds_262 (by decide) ?_
    refine x_sub [4, 3, 1] rfl ?_
    exact J300 v0 (201 + (4 * v1)) x25 x261 M h
def fX11_holds (N : Nat) : Nat → Nat → Int32 → Int32 → Mem → Option (Int32 × Mem)
  | 0, _, _, _, _ => none
  | d + 1, v0, v1, v2, M => fX11_holds_b N (fX11_holds N d) v0 v1 v2 M
theorem kg_X11_holds (l : Launch) (b : Nat) (D : va_G) (cy : Nat → ClassId) (N : Nat) : ∀ d : Nat, (∀ (v0 : Nat) (v1 : Int32) (v2 : Int32) (M : Mem) (r : Int32) (Mf : Mem), fX11_holds N d v0 v1 v2 M = some (r, Mf) → Ct l yX11_holds cX11_holds 8 (some .boolean) (6 + d) 0 0 b D cy [.ref (b + v0), .int v1, .int v2] M (some (.int r)) Mf) := by
  intro d
  induction d with
  | zero => exact fun v0 v1 v2 M r Mf h => (by rw [fX11_holds] at h; cases h)
  | succ d ih =>
    exact fun v0 v1 v2 M r Mf h => (by rw [fX11_holds] at h; exact kb_X11_holds l b D cy N (6 + d) (by omega) _ (ih) v0 v1 v2 M r Mf h)
theorem k_X11_holds (l : Launch) (b : Nat) (D : va_G) (cy : Nat → ClassId) (N d : Nat) (v0 : Nat) (v1 : Int32) (v2 : Int32) (M : Mem) (r : Int32) (Mf : Mem) (h : fX11_holds N d v0 v1 v2 M = some (r, Mf)) : Ct l yX11_holds cX11_holds 8 (some .boolean) (6 + d) 0 0 b D cy [.ref (b + v0), .int v1, .int v2] M (some (.int r)) Mf := (kg_X11_holds l b D cy N d) v0 v1 v2 M r Mf h
theorem dX11_said_0 : decode cX11_said 0 = .ok (.aload_n 0, 1) := by decide +kernel
theorem dX11_said_1 : decode cX11_said 1 = .ok (.iconst 0, 1) := by decide +kernel
theorem dX11_said_2 : decode cX11_said 2 = .ok (.putfield 1, 3) := by decide +kernel
theorem dX11_said_5 : decode cX11_said 5 = .ok (.aload_n 0, 1) := by decide +kernel
theorem dX11_said_6 : decode cX11_said 6 = .ok (.getfield 98, 3) := by decide +kernel
theorem dX11_said_9 : decode cX11_said 9 = .ok (.sipush 199, 3) := by decide +kernel
theorem dX11_said_12 : decode cX11_said 12 = .ok (.iaload, 1) := by decide +kernel
theorem dX11_said_13 : decode cX11_said 13 = .ok (.ifCond .ne 5, 3) := by decide +kernel
theorem dX11_said_16 : decode cX11_said 16 = .ok (.iconst (-1), 1) := by decide +kernel
theorem dX11_said_17 : decode cX11_said 17 = .ok (.ireturn, 1) := by decide +kernel
theorem dX11_said_18 : decode cX11_said 18 = .ok (.iconst 0, 1) := by decide +kernel
theorem dX11_said_19 : decode cX11_said 19 = .ok (.istore_n 2, 1) := by decide +kernel
theorem dX11_said_20 : decode cX11_said 20 = .ok (.iconst 0, 1) := by decide +kernel
theorem dX11_said_21 : decode cX11_said 21 = .ok (.istore_n 3, 1) := by decide +kernel
theorem dX11_said_22 : decode cX11_said 22 = .ok (.iload_n 3, 1) := by decide +kernel
theorem dX11_said_23 : decode cX11_said 23 = .ok (.aload_n 0, 1) := by decide +kernel
theorem dX11_said_24 : decode cX11_said 24 = .ok (.getfield 98, 3) := by decide +kernel
theorem dX11_said_27 : decode cX11_said 27 = .ok (.iconst 0, 1) := by decide +kernel
theorem dX11_said_28 : decode cX11_said 28 = .ok (.iaload, 1) := by decide +kernel
theorem dX11_said_29 : decode cX11_said 29 = .ok (.if_icmp .ge 38, 3) := by decide +kernel
theorem dX11_said_32 : decode cX11_said 32 = .ok (.aload_n 0, 1) := by decide +kernel
theorem dX11_said_33 : decode cX11_said 33 = .ok (.aload_n 0, 1) := by decide +kernel
theorem dX11_said_34 : decode cX11_said 34 = .ok (.getfield 98, 3) := by decide +kernel
theorem dX11_said_37 : decode cX11_said 37 = .ok (.sipush 200, 3) := by decide +kernel
theorem dX11_said_40 : decode cX11_said 40 = .ok (.iaload, 1) := by decide +kernel
theorem dX11_said_41 : decode cX11_said 41 = .ok (.iload_n 3, 1) := by decide +kernel
theorem dX11_said_42 : decode cX11_said 42 = .ok (.invokevirtual 432, 3) := by decide +kernel
theorem dX11_said_45 : decode cX11_said 45 = .ok (.ifCond .ne 6, 3) := by decide +kernel
theorem dX11_said_48 : decode cX11_said 48 = .ok (.goto 13, 3) := by decide +kernel
theorem dX11_said_51 : decode cX11_said 51 = .ok (.iload_n 2, 1) := by decide +kernel
theorem dX11_said_52 : decode cX11_said 52 = .ok (.iload_n 1, 1) := by decide +kernel
theorem dX11_said_53 : decode cX11_said 53 = .ok (.if_icmp .ne 5, 3) := by decide +kernel
theorem dX11_said_56 : decode cX11_said 56 = .ok (.iload_n 3, 1) := by decide +kernel
theorem dX11_said_57 : decode cX11_said 57 = .ok (.ireturn, 1) := by decide +kernel
theorem dX11_said_58 : decode cX11_said 58 = .ok (.iinc 2 1, 3) := by decide +kernel
theorem dX11_said_61 : decode cX11_said 61 = .ok (.iinc 3 1, 3) := by decide +kernel
theorem dX11_said_64 : decode cX11_said 64 = .ok (.goto (-42), 3) := by decide +kernel
theorem dX11_said_67 : decode cX11_said 67 = .ok (.iload_n 1, 1) := by decide +kernel
theorem dX11_said_68 : decode cX11_said 68 = .ok (.iconst (-1), 1) := by decide +kernel
theorem dX11_said_69 : decode cX11_said 69 = .ok (.if_icmp .ne 7, 3) := by decide +kernel
theorem dX11_said_72 : decode cX11_said 72 = .ok (.iload_n 2, 1) := by decide +kernel
theorem dX11_said_73 : decode cX11_said 73 = .ok (.goto 4, 3) := by decide +kernel
theorem dX11_said_76 : decode cX11_said 76 = .ok (.iconst (-1), 1) := by decide +kernel
theorem dX11_said_77 : decode cX11_said 77 = .ok (.ireturn, 1) := by decide +kernel
def fX11_said_L22 (N : Nat) (v0 : Nat) (v1 : Int32) : Nat → Int32 → Int32 → Mem → Option ((Int32 × Mem) ⊕ (Int32 × Mem))
  | 0, _, _, _ => none
  | n + 1, v2, v3, M => ((fR M 11 v0 14).bind fun x24 => ((aI M x24 0).bind fun x28 => (if x28 ≤ v3 then some (.inl (v2, M)) else ((fR M 11 v0 14).bind fun x34 => ((aI M x34 200).bind fun x40 => (if mK M v0 = 12 then ((fX11_holds N 64 v0 x40 v3 M).bind fun (x42, M42) => (if x42 = 0 then fX11_said_L22 N v0 v1 n v2 (v3 + 1) M42 else (if v2 = v1 then some (.inr (v3, M42)) else fX11_said_L22 N v0 v1 n (v2 + 1) (v3 + 1) M42))) else none))))))
def fX11_said (N : Nat) (v0 : Nat) (v1 : Int32) (M : Mem) : Option (Int32 × Mem) := ((pI M 11 v0 0 0).bind fun M2 => ((fR M2 11 v0 14).bind fun x6 => ((aI M2 x6 199).bind fun x12 => (if x12 = 0 then some ((-1), M2) else ((fX11_said_L22 N v0 v1 N 0 0 M2).bind fun o22 => match o22 with | .inl (w2_22, M22) => (if v1 = ((-1)) then some (w2_22, M22) else some ((-1), M22)) | .inr z => some z)))))
set_option maxHeartbeats 4000000 in
set_option maxRecDepth 100000 in
theorem k_X11_said (l : Launch) (b : Nat) (D : va_G) (cy : Nat → ClassId) (N : Nat) (v0 : Nat) (v1 : Int32) (M : Mem) (r : Int32) (Mf : Mem) (h : fX11_said N v0 v1 M = some (r, Mf)) : Ct l yX11_said cX11_said 4 (some .int) 71 0 0 b D cy [.ref (b + v0), .int v1] M (some (.int r)) Mf := by
  refine Ct_of (own := RX11) (by decide) rfl (Nat.le_of_ble_eq_true rfl) ?_
  intro p e s m args below meth c F hr hl hmn
  unfold fX11_said at h
  show X p l e ({ frames := 71, cells := 0, slots := 0, locals := 100 * 71 }) s m args below meth c (MQ below (Qm b D cy (some (.int r)) Mf) args s 0 0 (fun q => b ≤ q)) 4 b D cy 0 0 M 0 [(0, .ref (b + v0)), (1, .int v1)] []
  refine x_aload_n F dX11_said_0 rfl 0 rfl ?_
  refine x_iconst F (v := 0) dX11_said_1 (by decide) ?_
  obtain ⟨M2, c2, h⟩ := bdS h
  refine x_putI F (ci := 11) (C := RX11) (T := TX11) (N := 45) rfl ⟨by decide, rfl⟩ inU11 tyX11_ok nmX11 0 (by decide) rfl rfl wl_845 c2 dX11_said_2 ?_
  refine x_aload_n F dX11_said_5 rfl 0 rfl ?_
  obtain ⟨x6, c6, h⟩ := bdS h
  refine x_getR F (ci := 11) (C := RX11) (T := TX11) (N := 45) rfl ⟨by decide, rfl⟩ inU11 14 (by decide) (fun _ _ _ => rfl) wl_913 c6 dX11_said_6 ?_
  refine x_sipush F (v := 199) dX11_said_9 (by decide) ?_
  obtain ⟨x12, c12, h⟩ := bdS h
  refine x_aI F c12 dX11_said_12 ?_
  refine x_if_ne F (tgt := 18) dX11_said_13 (by decide) (fun c13 => ?_) (fun c13 => ?_)
  · rw [if_neg c13] at h
    refine x_iconst F (v := 0) dX11_said_18 (by decide) ?_
    refine x_istore_n F (lv' := [(2, .int 0), (0, .ref (b + v0)), (1, .int v1)]) dX11_said_19 rfl (by decide) rfl ?_
    refine x_iconst F (v := 0) dX11_said_20 (by decide) ?_
    refine x_istore_n F (lv' := [(3, .int 0), (2, .int 0), (0, .ref (b + v0)), (1, .int v1)]) dX11_said_21 rfl (by decide) rfl ?_
    have L22 : ∀ (v0 : Nat) (v1 : Int32) (n : Nat) (v2 : Int32) (v3 : Int32) (M : Mem) (o : (Int32 × Mem) ⊕ (Int32 × Mem)), fX11_said_L22 N v0 v1 n v2 v3 M = some o → (∀ (w2 : Int32) (M' : Mem), o = .inl (w2, M') → X p l e ({ frames := 71, cells := 0, slots := 0, locals := 100 * 71 }) s m args below meth c (MQ below (Qm b D cy (some (.int r)) Mf) args s 0 0 (fun q => b ≤ q)) 4 b D cy 0 0 M' 67 [(1, .int v1), (2, .int w2)] []) → (∀ (r' : Int32) (M' : Mem), o = Sum.inr (r', M') → r' = r ∧ M' = Mf) → X p l e ({ frames := 71, cells := 0, slots := 0, locals := 100 * 71 }) s m args below meth c (MQ below (Qm b D cy (some (.int r)) Mf) args s 0 0 (fun q => b ≤ q)) 4 b D cy 0 0 M 22 [(0, .ref (b + v0)), (1, .int v1), (2, .int v2), (3, .int v3)] [] := by
      intro v0 v1 n
      induction n with
      | zero => intro v2 v3 M o h; exact absurd h (by rw [fX11_said_L22]; exact fun z => by cases z)
      | succ n ih =>
        intro v2 v3 M o h hE hR
        rw [fX11_said_L22] at h
        refine x_iload_n F dX11_said_22 rfl 3 rfl ?_
        refine x_aload_n F dX11_said_23 rfl 0 rfl ?_
        obtain ⟨x24, c24, h⟩ := bdS h
        refine x_getR F (ci := 11) (C := RX11) (T := TX11) (N := 45) rfl ⟨by decide, rfl⟩ inU11 14 (by decide) (fun _ _ _ => rfl) wl_913 c24 dX11_said_24 ?_
        refine x_iconst F (v := 0) dX11_said_27 (by decide) ?_
        obtain ⟨x28, c28, h⟩ := bdS h
        refine x_aI F c28 dX11_said_28 ?_
        refine x_icmp_ge F (tgt := 67) dX11_said_29 (by decide) (fun c29 => ?_) (fun c29 => ?_)
        · rw [if_pos c29] at h
          obtain rfl := Option.some.inj h
          refine x_sub [1, 2] rfl ?_
          exact hE _ _ rfl
        · rw [if_neg c29] at h
          refine x_aload_n F dX11_said_32 rfl 0 rfl ?_
          refine x_aload_n F dX11_said_33 rfl 0 rfl ?_
          obtain ⟨x34, c34, h⟩ := bdS h
          refine x_getR F (ci := 11) (C := RX11) (T := TX11) (N := 45) rfl ⟨by decide, rfl⟩ inU11 14 (by decide) (fun _ _ _ => rfl) wl_913 c34 dX11_said_34 ?_
          refine x_sipush F (v := 200) dX11_said_37 (by decide) ?_
          obtain ⟨x40, c40, h⟩ := bdS h
          refine x_aI F c40 dX11_said_40 ?_
          refine x_iload_n F dX11_said_41 rfl 3 rfl ?_
          obtain ⟨k42, h⟩ := gdS h
          obtain ⟨⟨x42, M42⟩, c42, h⟩ := bdS h
          dsimp only at h
          refine x_callV F (As := [.int x40, .int v3]) (rest := []) (res := (some (.int x42))) (ci := 11) (q := (RX11, TX11, 45)) rfl (by decide) k42 (k_X11_holds l b D cy N 64 v0 x40 v3 M _ _ c42) wl_1263 wl_1264 wl_1265 wl_854 wl_1269 hd_X11_holds ⟨Nat.le_of_ble_eq_true rfl, Nat.le_of_ble_eq_true rfl⟩ ⟨Nat.le_refl _, Nat.le_refl _⟩ (Nat.le_of_ble_eq_true rfl) rfl dX11_said_42 ?_
          refine x_if_ne F (tgt := 51) dX11_said_45 (by decide) (fun c45 => ?_) (fun c45 => ?_)
          · rw [if_neg c45] at h
            refine x_iload_n F dX11_said_51 rfl 2 rfl ?_
            refine x_iload_n F dX11_said_52 rfl 1 rfl ?_
            refine x_icmp_ne F (tgt := 58) dX11_said_53 (by decide) (fun c53 => ?_) (fun c53 => ?_)
            · rw [if_neg c53] at h
              refine x_iinc F (v := v2 + 1) (lv' := [(2, .int (v2 + 1)), (0, .ref (b + v0)), (1, .int v1), (3, .int v3)]) dX11_said_58 2 rfl rfl (by decide) rfl ?_
              refine x_iinc F (v := v3 + 1) (lv' := [(3, .int (v3 + 1)), (2, .int (v2 + 1)), (0, .ref (b + v0)), (1, .int v1)]) dX11_said_61 3 rfl rfl (by decide) rfl ?_
              refine x_goto F (tgt := 22) dX11_said_64 (by decide) ?_
              refine x_sub [2, 3, 1, 0] rfl ?_
              exact ih (v2 + 1) (v3 + 1) M42 o h hE hR
            · rw [if_pos c53] at h
              refine x_iload_n F dX11_said_56 rfl 3 rfl ?_
              obtain rfl := Option.some.inj h
              obtain ⟨rfl, rfl⟩ := hR _ _ rfl
              exact x_iret F hr hl dX11_said_57
          · rw [if_pos c45] at h
            refine x_goto F (tgt := 61) dX11_said_48 (by decide) ?_
            refine x_iinc F (v := v3 + 1) (lv' := [(3, .int (v3 + 1)), (0, .ref (b + v0)), (1, .int v1), (2, .int v2)]) dX11_said_61 3 rfl rfl (by decide) rfl ?_
            refine x_goto F (tgt := 22) dX11_said_64 (by decide) ?_
            refine x_sub [1, 2, 3, 0] rfl ?_
            exact ih v2 (v3 + 1) M42 o h hE hR
    obtain ⟨o22, h22, h⟩ := bdS h
    refine x_sub [2, 3, 1, 0] rfl ?_
    refine L22 v0 v1 N 0 0 M2 o22 h22 (fun w2_22 M22 e => ?_) (fun r' M' e => ?_)
    · subst e
      dsimp only at h
      refine x_iload_n F dX11_said_67 rfl 0 rfl ?_
      refine x_iconst F (v := (-1)) dX11_said_68 (by decide) ?_
      refine x_icmp_ne F (tgt := 76) dX11_said_69 (by decide) (fun c69 => ?_) (fun c69 => ?_)
      · rw [if_neg c69] at h
        refine x_iconst F (v := (-1)) dX11_said_76 (by decide) ?_
        obtain ⟨rfl, rfl⟩ := retS h
        exact x_iret F hr hl dX11_said_77
      · rw [if_pos c69] at h
        refine x_iload_n F dX11_said_72 rfl 1 rfl ?_
        refine x_goto F (tgt := 77) dX11_said_73 (by decide) ?_
        obtain ⟨rfl, rfl⟩ := retS h
        exact x_iret F hr hl dX11_said_77
    · subst e
      try dsimp only at h
      obtain ⟨rfl, rfl⟩ := retS h; exact ⟨rfl, rfl⟩
  · rw [if_pos c13] at h
    refine x_iconst F (v := (-1)) dX11_said_16 (by decide) ?_
    obtain ⟨rfl, rfl⟩ := retS h
    exact x_iret F hr hl dX11_said_17
theorem dX11_image_0 : decode cX11_image 0 = .ok (.aload_n 0, 1) := by decide +kernel
theorem dX11_image_1 : decode cX11_image 1 = .ok (.iconst 0, 1) := by decide +kernel
theorem dX11_image_2 : decode cX11_image 2 = .ok (.putfield 1, 3) := by decide +kernel
theorem dX11_image_5 : decode cX11_image 5 = .ok (.iload_n 1, 1) := by decide +kernel
theorem dX11_image_6 : decode cX11_image 6 = .ok (.iconst 0, 1) := by decide +kernel
theorem dX11_image_7 : decode cX11_image 7 = .ok (.iconst 1, 1) := by decide +kernel
theorem dX11_image_8 : decode cX11_image 8 = .ok (.invokestatic 75, 3) := by decide +kernel
theorem dX11_image_11 : decode cX11_image 11 = .ok (.ifCond .ne 5, 3) := by decide +kernel
theorem dX11_image_14 : decode cX11_image 14 = .ok (.iconst 0, 1) := by decide +kernel
theorem dX11_image_15 : decode cX11_image 15 = .ok (.ireturn, 1) := by decide +kernel
theorem dX11_image_16 : decode cX11_image 16 = .ok (.iconst 0, 1) := by decide +kernel
theorem dX11_image_17 : decode cX11_image 17 = .ok (.istore_n 2, 1) := by decide +kernel
theorem dX11_image_18 : decode cX11_image 18 = .ok (.iload_n 2, 1) := by decide +kernel
theorem dX11_image_19 : decode cX11_image 19 = .ok (.sipush 441, 3) := by decide +kernel
theorem dX11_image_22 : decode cX11_image 22 = .ok (.if_icmp .ge 27, 3) := by decide +kernel
theorem dX11_image_25 : decode cX11_image 25 = .ok (.aload_n 0, 1) := by decide +kernel
theorem dX11_image_26 : decode cX11_image 26 = .ok (.getfield 104, 3) := by decide +kernel
theorem dX11_image_29 : decode cX11_image 29 = .ok (.sipush 441, 3) := by decide +kernel
theorem dX11_image_32 : decode cX11_image 32 = .ok (.iload_n 1, 1) := by decide +kernel
theorem dX11_image_33 : decode cX11_image 33 = .ok (.imul, 1) := by decide +kernel
theorem dX11_image_34 : decode cX11_image 34 = .ok (.iload_n 2, 1) := by decide +kernel
theorem dX11_image_35 : decode cX11_image 35 = .ok (.iadd, 1) := by decide +kernel
theorem dX11_image_36 : decode cX11_image 36 = .ok (.aload_n 0, 1) := by decide +kernel
theorem dX11_image_37 : decode cX11_image 37 = .ok (.getfield 98, 3) := by decide +kernel
theorem dX11_image_40 : decode cX11_image 40 = .ok (.iload_n 2, 1) := by decide +kernel
theorem dX11_image_41 : decode cX11_image 41 = .ok (.iaload, 1) := by decide +kernel
theorem dX11_image_42 : decode cX11_image 42 = .ok (.iastore, 1) := by decide +kernel
theorem dX11_image_43 : decode cX11_image 43 = .ok (.iinc 2 1, 3) := by decide +kernel
theorem dX11_image_46 : decode cX11_image 46 = .ok (.goto (-28), 3) := by decide +kernel
theorem dX11_image_49 : decode cX11_image 49 = .ok (.iconst 0, 1) := by decide +kernel
theorem dX11_image_50 : decode cX11_image 50 = .ok (.istore_n 2, 1) := by decide +kernel
theorem dX11_image_51 : decode cX11_image 51 = .ok (.iload_n 2, 1) := by decide +kernel
theorem dX11_image_52 : decode cX11_image 52 = .ok (.bipush 16, 2) := by decide +kernel
theorem dX11_image_54 : decode cX11_image 54 = .ok (.if_icmp .ge 26, 3) := by decide +kernel
theorem dX11_image_57 : decode cX11_image 57 = .ok (.aload_n 0, 1) := by decide +kernel
theorem dX11_image_58 : decode cX11_image 58 = .ok (.getfield 120, 3) := by decide +kernel
theorem dX11_image_61 : decode cX11_image 61 = .ok (.bipush 16, 2) := by decide +kernel
theorem dX11_image_63 : decode cX11_image 63 = .ok (.iload_n 1, 1) := by decide +kernel
theorem dX11_image_64 : decode cX11_image 64 = .ok (.imul, 1) := by decide +kernel
theorem dX11_image_65 : decode cX11_image 65 = .ok (.iload_n 2, 1) := by decide +kernel
theorem dX11_image_66 : decode cX11_image 66 = .ok (.iadd, 1) := by decide +kernel
theorem dX11_image_67 : decode cX11_image 67 = .ok (.aload_n 0, 1) := by decide +kernel
theorem dX11_image_68 : decode cX11_image 68 = .ok (.getfield 113, 3) := by decide +kernel
theorem dX11_image_71 : decode cX11_image 71 = .ok (.iload_n 2, 1) := by decide +kernel
theorem dX11_image_72 : decode cX11_image 72 = .ok (.laload, 1) := by decide +kernel
theorem dX11_image_73 : decode cX11_image 73 = .ok (.lastore, 1) := by decide +kernel
theorem dX11_image_74 : decode cX11_image 74 = .ok (.iinc 2 1, 3) := by decide +kernel
theorem dX11_image_77 : decode cX11_image 77 = .ok (.goto (-26), 3) := by decide +kernel
theorem dX11_image_80 : decode cX11_image 80 = .ok (.aload_n 0, 1) := by decide +kernel
theorem dX11_image_81 : decode cX11_image 81 = .ok (.getfield 123, 3) := by decide +kernel
theorem dX11_image_84 : decode cX11_image 84 = .ok (.iload_n 1, 1) := by decide +kernel
theorem dX11_image_85 : decode cX11_image 85 = .ok (.iconst 1, 1) := by decide +kernel
theorem dX11_image_86 : decode cX11_image 86 = .ok (.bastore, 1) := by decide +kernel
theorem dX11_image_87 : decode cX11_image 87 = .ok (.iconst 1, 1) := by decide +kernel
theorem dX11_image_88 : decode cX11_image 88 = .ok (.ireturn, 1) := by decide +kernel
def fX11_image_L18 (N : Nat) (v0 : Nat) (v1 : Int32) : Nat → Int32 → Mem → Option (Mem)
  | 0, _, _ => none
  | n + 1, v2, M => (if 441 ≤ v2 then some M else ((fR M 11 v0 16).bind fun x26 => ((fR M 11 v0 14).bind fun x37 => ((aI M x37 v2).bind fun x41 => ((tI M x26 ((441 * v1) + v2) x41).bind fun M42 => fX11_image_L18 N v0 v1 n (v2 + 1) M42)))))
def fX11_image_L51 (N : Nat) (v0 : Nat) (v1 : Int32) : Nat → Int32 → Mem → Option (Int32 × Mem)
  | 0, _, _ => none
  | n + 1, v2, M => (if 16 ≤ v2 then ((fR M 11 v0 22).bind fun x81 => ((tZ M x81 v1 1).bind fun M86 => some (1, M86))) else ((fR M 11 v0 21).bind fun x58 => ((fR M 11 v0 19).bind fun x68 => ((aL M x68 v2).bind fun x72 => ((tL M x58 ((16 * v1) + v2) x72).bind fun M73 => fX11_image_L51 N v0 v1 n (v2 + 1) M73)))))
def fX11_image (N : Nat) (v0 : Nat) (v1 : Int32) (M : Mem) : Option (Int32 × Mem) := ((pI M 11 v0 0 0).bind fun M2 => ((fX11_isIn N v1 0 1 M2).bind fun (x8, M8) => (if x8 = 0 then some (0, M8) else ((fX11_image_L18 N v0 v1 N 0 M8).bind fun o18 => ((fX11_image_L51 N v0 v1 N 0 o18).bind fun o51 => some o51)))))
set_option maxHeartbeats 4000000 in
set_option maxRecDepth 100000 in
theorem k_X11_image (l : Launch) (b : Nat) (D : va_G) (cy : Nat → ClassId) (N : Nat) (v0 : Nat) (v1 : Int32) (M : Mem) (r : Int32) (Mf : Mem) (h : fX11_image N v0 v1 M = some (r, Mf)) : Ct l yX11_image cX11_image 3 (some .boolean) 2 0 0 b D cy [.ref (b + v0), .int v1] M (some (.int r)) Mf := by
  refine Ct_of (own := RX11) (by decide) rfl (Nat.le_of_ble_eq_true rfl) ?_
  intro p e s m args below meth c F hr hl hmn
  unfold fX11_image at h
  show X p l e ({ frames := 2, cells := 0, slots := 0, locals := 100 * 2 }) s m args below meth c (MQ below (Qm b D cy (some (.int r)) Mf) args s 0 0 (fun q => b ≤ q)) 3 b D cy 0 0 M 0 [(0, .ref (b + v0)), (1, .int v1)] []
  refine x_aload_n F dX11_image_0 rfl 0 rfl ?_
  refine x_iconst F (v := 0) dX11_image_1 (by decide) ?_
  obtain ⟨M2, c2, h⟩ := bdS h
  refine x_putI F (ci := 11) (C := RX11) (T := TX11) (N := 45) rfl ⟨by decide, rfl⟩ inU11 tyX11_ok nmX11 0 (by decide) rfl rfl wl_845 c2 dX11_image_2 ?_
  refine x_iload_n F dX11_image_5 rfl 1 rfl ?_
  refine x_iconst F (v := 0) dX11_image_6 (by decide) ?_
  refine x_iconst F (v := 1) dX11_image_7 (by decide) ?_
  obtain ⟨⟨x8, M8⟩, c8, h⟩ := bdS h
  dsimp only at h
  refine x_callS F (As := [.int v1, .int 0, .int 1]) (rest := []) (res := (some (.int x8))) (k_X11_isIn l b D cy N v1 0 1 M2 _ _ c8) wl_898 wl_899 wl_854 wl_857 (hd_X11_isIn).2 ⟨Nat.le_of_ble_eq_true rfl, Nat.le_of_ble_eq_true rfl⟩ ⟨Nat.le_refl _, Nat.le_refl _⟩ (Nat.le_of_ble_eq_true rfl) rfl dX11_image_8 ?_
  refine x_if_ne F (tgt := 16) dX11_image_11 (by decide) (fun c11 => ?_) (fun c11 => ?_)
  · rw [if_neg c11] at h
    refine x_iconst F (v := 0) dX11_image_16 (by decide) ?_
    refine x_istore_n F (lv' := [(2, .int 0), (0, .ref (b + v0)), (1, .int v1)]) dX11_image_17 rfl (by decide) rfl ?_
    have L18 : ∀ (v0 : Nat) (v1 : Int32) (n : Nat) (v2 : Int32) (M : Mem) (o : Mem), fX11_image_L18 N v0 v1 n v2 M = some o → X p l e ({ frames := 2, cells := 0, slots := 0, locals := 100 * 2 }) s m args below meth c (MQ below (Qm b D cy (some (.int r)) Mf) args s 0 0 (fun q => b ≤ q)) 3 b D cy 0 0 o 49 [(0, .ref (b + v0)), (1, .int v1)] [] → X p l e ({ frames := 2, cells := 0, slots := 0, locals := 100 * 2 }) s m args below meth c (MQ below (Qm b D cy (some (.int r)) Mf) args s 0 0 (fun q => b ≤ q)) 3 b D cy 0 0 M 18 [(0, .ref (b + v0)), (1, .int v1), (2, .int v2)] [] := by
      intro v0 v1 n
      induction n with
      | zero => intro v2 M o h; exact absurd h (by rw [fX11_image_L18]; exact fun z => by cases z)
      | succ n ih =>
        intro v2 M o h hE
        rw [fX11_image_L18] at h
        refine x_iload_n F dX11_image_18 rfl 2 rfl ?_
        refine x_sipush F (v := 441) dX11_image_19 (by decide) ?_
        refine x_icmp_ge F (tgt := 49) dX11_image_22 (by decide) (fun c22 => ?_) (fun c22 => ?_)
        · rw [if_pos c22] at h
          obtain rfl := Option.some.inj h
          refine x_sub [0, 1] rfl ?_
          exact hE
        · rw [if_neg c22] at h
          refine x_aload_n F dX11_image_25 rfl 0 rfl ?_
          obtain ⟨x26, c26, h⟩ := bdS h
          refine x_getR F (ci := 11) (C := RX11) (T := TX11) (N := 45) rfl ⟨by decide, rfl⟩ inU11 16 (by decide) (fun _ _ _ => rfl) wl_916 c26 dX11_image_26 ?_
          refine x_sipush F (v := 441) dX11_image_29 (by decide) ?_
          refine x_iload_n F dX11_image_32 rfl 1 rfl ?_
          refine x_imul F dX11_image_33 ?_
          refine x_iload_n F dX11_image_34 rfl 2 rfl ?_
          refine x_iadd F dX11_image_35 ?_
          refine x_aload_n F dX11_image_36 rfl 0 rfl ?_
          obtain ⟨x37, c37, h⟩ := bdS h
          refine x_getR F (ci := 11) (C := RX11) (T := TX11) (N := 45) rfl ⟨by decide, rfl⟩ inU11 14 (by decide) (fun _ _ _ => rfl) wl_913 c37 dX11_image_37 ?_
          refine x_iload_n F dX11_image_40 rfl 2 rfl ?_
          obtain ⟨x41, c41, h⟩ := bdS h
          refine x_aI F c41 dX11_image_41 ?_
          obtain ⟨M42, c42, h⟩ := bdS h
          refine x_tI F c42 dX11_image_42 ?_
          refine x_iinc F (v := v2 + 1) (lv' := [(2, .int (v2 + 1)), (0, .ref (b + v0)), (1, .int v1)]) dX11_image_43 2 rfl rfl (by decide) rfl ?_
          refine x_goto F (tgt := 18) dX11_image_46 (by decide) ?_
          refine x_sub [1, 2, 0] rfl ?_
          exact ih (v2 + 1) M42 o h hE
    obtain ⟨o18, h18, h⟩ := bdS h
    refine x_sub [1, 2, 0] rfl ?_
    refine L18 v0 v1 N 0 M8 o18 h18 ?_
    refine x_iconst F (v := 0) dX11_image_49 (by decide) ?_
    refine x_istore_n F (lv' := [(2, .int 0), (0, .ref (b + v0)), (1, .int v1)]) dX11_image_50 rfl (by decide) rfl ?_
    have L51 : ∀ (v0 : Nat) (v1 : Int32) (n : Nat) (v2 : Int32) (M : Mem) (o : Int32 × Mem), fX11_image_L51 N v0 v1 n v2 M = some o → (∀ (r' : Int32) (M' : Mem), o = (r', M') → r' = r ∧ M' = Mf) → X p l e ({ frames := 2, cells := 0, slots := 0, locals := 100 * 2 }) s m args below meth c (MQ below (Qm b D cy (some (.int r)) Mf) args s 0 0 (fun q => b ≤ q)) 3 b D cy 0 0 M 51 [(0, .ref (b + v0)), (1, .int v1), (2, .int v2)] [] := by
      intro v0 v1 n
      induction n with
      | zero => intro v2 M o h; exact absurd h (by rw [fX11_image_L51]; exact fun z => by cases z)
      | succ n ih =>
        intro v2 M o h hR
        rw [fX11_image_L51] at h
        refine x_iload_n F dX11_image_51 rfl 2 rfl ?_
        refine x_bipush F (v := 16) dX11_image_52 (by decide) ?_
        refine x_icmp_ge F (tgt := 80) dX11_image_54 (by decide) (fun c54 => ?_) (fun c54 => ?_)
        · rw [if_pos c54] at h
          refine x_aload_n F dX11_image_80 rfl 0 rfl ?_
          obtain ⟨x81, c81, h⟩ := bdS h
          refine x_getR F (ci := 11) (C := RX11) (T := TX11) (N := 45) rfl ⟨by decide, rfl⟩ inU11 22 (by decide) (fun _ _ _ => rfl) wl_922 c81 dX11_image_81 ?_
          refine x_iload_n F dX11_image_84 rfl 1 rfl ?_
          refine x_iconst F (v := 1) dX11_image_85 (by decide) ?_
          obtain ⟨M86, c86, h⟩ := bdS h
          refine x_tZ F c86 dX11_image_86 ?_
          refine x_iconst F (v := 1) dX11_image_87 (by decide) ?_
          obtain rfl := Option.some.inj h
          obtain ⟨rfl, rfl⟩ := hR _ _ rfl
          exact x_zret F hr hl (by decide) dX11_image_88
        · rw [if_neg c54] at h
          refine x_aload_n F dX11_image_57 rfl 0 rfl ?_
          obtain ⟨x58, c58, h⟩ := bdS h
          refine x_getR F (ci := 11) (C := RX11) (T := TX11) (N := 45) rfl ⟨by decide, rfl⟩ inU11 21 (by decide) (fun _ _ _ => rfl) wl_921 c58 dX11_image_58 ?_
          refine x_bipush F (v := 16) dX11_image_61 (by decide) ?_
          refine x_iload_n F dX11_image_63 rfl 1 rfl ?_
          refine x_imul F dX11_image_64 ?_
          refine x_iload_n F dX11_image_65 rfl 2 rfl ?_
          refine x_iadd F dX11_image_66 ?_
          refine x_aload_n F dX11_image_67 rfl 0 rfl ?_
          obtain ⟨x68, c68, h⟩ := bdS h
          refine x_getR F (ci := 11) (C := RX11) (T := TX11) (N := 45) rfl ⟨by decide, rfl⟩ inU11 19 (by decide) (fun _ _ _ => rfl) wl_919 c68 dX11_image_68 ?_
          refine x_iload_n F dX11_image_71 rfl 2 rfl ?_
          obtain ⟨x72, c72, h⟩ := bdS h
          refine x_aL F c72 dX11_image_72 ?_
          obtain ⟨M73, c73, h⟩ := bdS h
          refine x_tL F c73 dX11_image_73 ?_
          refine x_iinc F (v := v2 + 1) (lv' := [(2, .int (v2 + 1)), (0, .ref (b + v0)), (1, .int v1)]) dX11_image_74 2 rfl rfl (by decide) rfl ?_
          refine x_goto F (tgt := 51) dX11_image_77 (by decide) ?_
          refine x_sub [1, 2, 0] rfl ?_
          exact ih (v2 + 1) M73 o h hR
    obtain ⟨o51, h51, h⟩ := bdS h
    refine x_sub [1, 2, 0] rfl ?_
    refine L51 v0 v1 N 0 o18 o51 h51 (fun r' M' e => ?_)
    · subst e
      try dsimp only at h
      obtain ⟨rfl, rfl⟩ := retS h; exact ⟨rfl, rfl⟩
  · rw [if_pos c11] at h
    refine x_iconst F (v := 0) dX11_image_14 (by decide) ?_
    obtain ⟨rfl, rfl⟩ := retS h
    exact x_zret F hr hl (by decide) dX11_image_15
theorem dX11_restore_0 : decode cX11_restore 0 = .ok (.aload_n 0, 1) := by decide +kernel
theorem dX11_restore_1 : decode cX11_restore 1 = .ok (.iconst 0, 1) := by decide +kernel
theorem dX11_restore_2 : decode cX11_restore 2 = .ok (.putfield 1, 3) := by decide +kernel
theorem dX11_restore_5 : decode cX11_restore 5 = .ok (.iload_n 1, 1) := by decide +kernel
theorem dX11_restore_6 : decode cX11_restore 6 = .ok (.iconst 0, 1) := by decide +kernel
theorem dX11_restore_7 : decode cX11_restore 7 = .ok (.iconst 1, 1) := by decide +kernel
theorem dX11_restore_8 : decode cX11_restore 8 = .ok (.invokestatic 75, 3) := by decide +kernel
theorem dX11_restore_11 : decode cX11_restore 11 = .ok (.ifCond .eq 12, 3) := by decide +kernel
theorem dX11_restore_14 : decode cX11_restore 14 = .ok (.aload_n 0, 1) := by decide +kernel
theorem dX11_restore_15 : decode cX11_restore 15 = .ok (.getfield 123, 3) := by decide +kernel
theorem dX11_restore_18 : decode cX11_restore 18 = .ok (.iload_n 1, 1) := by decide +kernel
theorem dX11_restore_19 : decode cX11_restore 19 = .ok (.baload, 1) := by decide +kernel
theorem dX11_restore_20 : decode cX11_restore 20 = .ok (.ifCond .ne 5, 3) := by decide +kernel
theorem dX11_restore_23 : decode cX11_restore 23 = .ok (.iconst 0, 1) := by decide +kernel
theorem dX11_restore_24 : decode cX11_restore 24 = .ok (.ireturn, 1) := by decide +kernel
theorem dX11_restore_25 : decode cX11_restore 25 = .ok (.iconst 0, 1) := by decide +kernel
theorem dX11_restore_26 : decode cX11_restore 26 = .ok (.istore_n 2, 1) := by decide +kernel
theorem dX11_restore_27 : decode cX11_restore 27 = .ok (.iload_n 2, 1) := by decide +kernel
theorem dX11_restore_28 : decode cX11_restore 28 = .ok (.sipush 441, 3) := by decide +kernel
theorem dX11_restore_31 : decode cX11_restore 31 = .ok (.if_icmp .ge 27, 3) := by decide +kernel
theorem dX11_restore_34 : decode cX11_restore 34 = .ok (.aload_n 0, 1) := by decide +kernel
theorem dX11_restore_35 : decode cX11_restore 35 = .ok (.getfield 98, 3) := by decide +kernel
theorem dX11_restore_38 : decode cX11_restore 38 = .ok (.iload_n 2, 1) := by decide +kernel
theorem dX11_restore_39 : decode cX11_restore 39 = .ok (.aload_n 0, 1) := by decide +kernel
theorem dX11_restore_40 : decode cX11_restore 40 = .ok (.getfield 104, 3) := by decide +kernel
theorem dX11_restore_43 : decode cX11_restore 43 = .ok (.sipush 441, 3) := by decide +kernel
theorem dX11_restore_46 : decode cX11_restore 46 = .ok (.iload_n 1, 1) := by decide +kernel
theorem dX11_restore_47 : decode cX11_restore 47 = .ok (.imul, 1) := by decide +kernel
theorem dX11_restore_48 : decode cX11_restore 48 = .ok (.iload_n 2, 1) := by decide +kernel
theorem dX11_restore_49 : decode cX11_restore 49 = .ok (.iadd, 1) := by decide +kernel
theorem dX11_restore_50 : decode cX11_restore 50 = .ok (.iaload, 1) := by decide +kernel
theorem dX11_restore_51 : decode cX11_restore 51 = .ok (.iastore, 1) := by decide +kernel
theorem dX11_restore_52 : decode cX11_restore 52 = .ok (.iinc 2 1, 3) := by decide +kernel
theorem dX11_restore_55 : decode cX11_restore 55 = .ok (.goto (-28), 3) := by decide +kernel
theorem dX11_restore_58 : decode cX11_restore 58 = .ok (.iconst 0, 1) := by decide +kernel
theorem dX11_restore_59 : decode cX11_restore 59 = .ok (.istore_n 2, 1) := by decide +kernel
theorem dX11_restore_60 : decode cX11_restore 60 = .ok (.iload_n 2, 1) := by decide +kernel
theorem dX11_restore_61 : decode cX11_restore 61 = .ok (.bipush 16, 2) := by decide +kernel
theorem dX11_restore_63 : decode cX11_restore 63 = .ok (.if_icmp .ge 26, 3) := by decide +kernel
theorem dX11_restore_66 : decode cX11_restore 66 = .ok (.aload_n 0, 1) := by decide +kernel
theorem dX11_restore_67 : decode cX11_restore 67 = .ok (.getfield 113, 3) := by decide +kernel
theorem dX11_restore_70 : decode cX11_restore 70 = .ok (.iload_n 2, 1) := by decide +kernel
theorem dX11_restore_71 : decode cX11_restore 71 = .ok (.aload_n 0, 1) := by decide +kernel
theorem dX11_restore_72 : decode cX11_restore 72 = .ok (.getfield 120, 3) := by decide +kernel
theorem dX11_restore_75 : decode cX11_restore 75 = .ok (.bipush 16, 2) := by decide +kernel
theorem dX11_restore_77 : decode cX11_restore 77 = .ok (.iload_n 1, 1) := by decide +kernel
theorem dX11_restore_78 : decode cX11_restore 78 = .ok (.imul, 1) := by decide +kernel
theorem dX11_restore_79 : decode cX11_restore 79 = .ok (.iload_n 2, 1) := by decide +kernel
theorem dX11_restore_80 : decode cX11_restore 80 = .ok (.iadd, 1) := by decide +kernel
theorem dX11_restore_81 : decode cX11_restore 81 = .ok (.laload, 1) := by decide +kernel
theorem dX11_restore_82 : decode cX11_restore 82 = .ok (.lastore, 1) := by decide +kernel
theorem dX11_restore_83 : decode cX11_restore 83 = .ok (.iinc 2 1, 3) := by decide +kernel
theorem dX11_restore_86 : decode cX11_restore 86 = .ok (.goto (-26), 3) := by decide +kernel
theorem dX11_restore_89 : decode cX11_restore 89 = .ok (.aload_n 0, 1) := by decide +kernel
theorem dX11_restore_90 : decode cX11_restore 90 = .ok (.iconst 0, 1) := by decide +kernel
theorem dX11_restore_91 : decode cX11_restore 91 = .ok (.putfield 213, 3) := by decide +kernel
theorem dX11_restore_94 : decode cX11_restore 94 = .ok (.iconst 1, 1) := by decide +kernel
theorem dX11_restore_95 : decode cX11_restore 95 = .ok (.ireturn, 1) := by decide +kernel
def fX11_restore_L27 (N : Nat) (v0 : Nat) (v1 : Int32) : Nat → Int32 → Mem → Option (Mem)
  | 0, _, _ => none
  | n + 1, v2, M => (if 441 ≤ v2 then some M else ((fR M 11 v0 14).bind fun x35 => ((fR M 11 v0 16).bind fun x40 => ((aI M x40 ((441 * v1) + v2)).bind fun x50 => ((tI M x35 v2 x50).bind fun M51 => fX11_restore_L27 N v0 v1 n (v2 + 1) M51)))))
def fX11_restore_L60 (N : Nat) (v0 : Nat) (v1 : Int32) : Nat → Int32 → Mem → Option (Mem)
  | 0, _, _ => none
  | n + 1, v2, M => (if 16 ≤ v2 then some M else ((fR M 11 v0 19).bind fun x67 => ((fR M 11 v0 21).bind fun x72 => ((aL M x72 ((16 * v1) + v2)).bind fun x81 => ((tL M x67 v2 x81).bind fun M82 => fX11_restore_L60 N v0 v1 n (v2 + 1) M82)))))
def fX11_restore (N : Nat) (v0 : Nat) (v1 : Int32) (M : Mem) : Option (Int32 × Mem) := ((pI M 11 v0 0 0).bind fun M2 => ((fX11_isIn N v1 0 1 M2).bind fun (x8, M8) => (if x8 = 0 then some (0, M8) else ((fR M8 11 v0 22).bind fun x15 => ((aZ M8 x15 v1).bind fun x19 => (if x19 = 0 then some (0, M8) else ((fX11_restore_L27 N v0 v1 N 0 M8).bind fun o27 => ((fX11_restore_L60 N v0 v1 N 0 o27).bind fun o60 => ((pI o60 11 v0 24 0).bind fun M91 => some (1, M91))))))))))
set_option maxHeartbeats 4000000 in
set_option maxRecDepth 100000 in
theorem k_X11_restore (l : Launch) (b : Nat) (D : va_G) (cy : Nat → ClassId) (N : Nat) (v0 : Nat) (v1 : Int32) (M : Mem) (r : Int32) (Mf : Mem) (h : fX11_restore N v0 v1 M = some (r, Mf)) : Ct l yX11_restore cX11_restore 3 (some .boolean) 2 0 0 b D cy [.ref (b + v0), .int v1] M (some (.int r)) Mf := by
  refine Ct_of (own := RX11) (by decide) rfl (Nat.le_of_ble_eq_true rfl) ?_
  intro p e s m args below meth c F hr hl hmn
  unfold fX11_restore at h
  show X p l e ({ frames := 2, cells := 0, slots := 0, locals := 100 * 2 }) s m args below meth c (MQ below (Qm b D cy (some (.int r)) Mf) args s 0 0 (fun q => b ≤ q)) 3 b D cy 0 0 M 0 [(0, .ref (b + v0)), (1, .int v1)] []
  refine x_aload_n F dX11_restore_0 rfl 0 rfl ?_
  refine x_iconst F (v := 0) dX11_restore_1 (by decide) ?_
  obtain ⟨M2, c2, h⟩ := bdS h
  refine x_putI F (ci := 11) (C := RX11) (T := TX11) (N := 45) rfl ⟨by decide, rfl⟩ inU11 tyX11_ok nmX11 0 (by decide) rfl rfl wl_845 c2 dX11_restore_2 ?_
  refine x_iload_n F dX11_restore_5 rfl 1 rfl ?_
  refine x_iconst F (v := 0) dX11_restore_6 (by decide) ?_
  refine x_iconst F (v := 1) dX11_restore_7 (by decide) ?_
  obtain ⟨⟨x8, M8⟩, c8, h⟩ := bdS h
  dsimp only at h
  refine x_callS F (As := [.int v1, .int 0, .int 1]) (rest := []) (res := (some (.int x8))) (k_X11_isIn l b D cy N v1 0 1 M2 _ _ c8) wl_898 wl_899 wl_854 wl_857 (hd_X11_isIn).2 ⟨Nat.le_of_ble_eq_true rfl, Nat.le_of_ble_eq_true rfl⟩ ⟨Nat.le_refl _, Nat.le_refl _⟩ (Nat.le_of_ble_eq_true rfl) rfl dX11_restore_8 ?_
  refine x_if_eq F (tgt := 23) dX11_restore_11 (by decide) (fun c11 => ?_) (fun c11 => ?_)
  · rw [if_pos c11] at h
    refine x_iconst F (v := 0) dX11_restore_23 (by decide) ?_
    obtain ⟨rfl, rfl⟩ := retS h
    exact x_zret F hr hl (by decide) dX11_restore_24
  · rw [if_neg c11] at h
    refine x_aload_n F dX11_restore_14 rfl 0 rfl ?_
    obtain ⟨x15, c15, h⟩ := bdS h
    refine x_getR F (ci := 11) (C := RX11) (T := TX11) (N := 45) rfl ⟨by decide, rfl⟩ inU11 22 (by decide) (fun _ _ _ => rfl) wl_922 c15 dX11_restore_15 ?_
    refine x_iload_n F dX11_restore_18 rfl 1 rfl ?_
    obtain ⟨x19, c19, h⟩ := bdS h
    refine x_aZ F c19 dX11_restore_19 ?_
    refine x_if_ne F (tgt := 25) dX11_restore_20 (by decide) (fun c20 => ?_) (fun c20 => ?_)
    · rw [if_neg c20] at h
      refine x_iconst F (v := 0) dX11_restore_25 (by decide) ?_
      refine x_istore_n F (lv' := [(2, .int 0), (0, .ref (b + v0)), (1, .int v1)]) dX11_restore_26 rfl (by decide) rfl ?_
      have L27 : ∀ (v0 : Nat) (v1 : Int32) (n : Nat) (v2 : Int32) (M : Mem) (o : Mem), fX11_restore_L27 N v0 v1 n v2 M = some o → X p l e ({ frames := 2, cells := 0, slots := 0, locals := 100 * 2 }) s m args below meth c (MQ below (Qm b D cy (some (.int r)) Mf) args s 0 0 (fun q => b ≤ q)) 3 b D cy 0 0 o 58 [(0, .ref (b + v0)), (1, .int v1)] [] → X p l e ({ frames := 2, cells := 0, slots := 0, locals := 100 * 2 }) s m args below meth c (MQ below (Qm b D cy (some (.int r)) Mf) args s 0 0 (fun q => b ≤ q)) 3 b D cy 0 0 M 27 [(0, .ref (b + v0)), (1, .int v1), (2, .int v2)] [] := by
        intro v0 v1 n
        induction n with
        | zero => intro v2 M o h; exact absurd h (by rw [fX11_restore_L27]; exact fun z => by cases z)
        | succ n ih =>
          intro v2 M o h hE
          rw [fX11_restore_L27] at h
          refine x_iload_n F dX11_restore_27 rfl 2 rfl ?_
          refine x_sipush F (v := 441) dX11_restore_28 (by decide) ?_
          refine x_icmp_ge F (tgt := 58) dX11_restore_31 (by decide) (fun c31 => ?_) (fun c31 => ?_)
          · rw [if_pos c31] at h
            obtain rfl := Option.some.inj h
            refine x_sub [0, 1] rfl ?_
            exact hE
          · rw [if_neg c31] at h
            refine x_aload_n F dX11_restore_34 rfl 0 rfl ?_
            obtain ⟨x35, c35, h⟩ := bdS h
            refine x_getR F (ci := 11) (C := RX11) (T := TX11) (N := 45) rfl ⟨by decide, rfl⟩ inU11 14 (by decide) (fun _ _ _ => rfl) wl_913 c35 dX11_restore_35 ?_
            refine x_iload_n F dX11_restore_38 rfl 2 rfl ?_
            refine x_aload_n F dX11_restore_39 rfl 0 rfl ?_
            obtain ⟨x40, c40, h⟩ := bdS h
            refine x_getR F (ci := 11) (C := RX11) (T := TX11) (N := 45) rfl ⟨by decide, rfl⟩ inU11 16 (by decide) (fun _ _ _ => rfl) wl_916 c40 dX11_restore_40 ?_
            refine x_sipush F (v := 441) dX11_restore_43 (by decide) ?_
            refine x_iload_n F dX11_restore_46 rfl 1 rfl ?_
            refine x_imul F dX11_restore_47 ?_
            refine x_iload_n F dX11_restore_48 rfl 2 rfl ?_
            refine x_iadd F dX11_restore_49 ?_
            obtain ⟨x50, c50, h⟩ := bdS h
            refine x_aI F c50 dX11_restore_50 ?_
            obtain ⟨M51, c51, h⟩ := bdS h
            refine x_tI F c51 dX11_restore_51 ?_
            refine x_iinc F (v := v2 + 1) (lv' := [(2, .int (v2 + 1)), (0, .ref (b + v0)), (1, .int v1)]) dX11_restore_52 2 rfl rfl (by decide) rfl ?_
            refine x_goto F (tgt := 27) dX11_restore_55 (by decide) ?_
            refine x_sub [1, 2, 0] rfl ?_
            exact ih (v2 + 1) M51 o h hE
      obtain ⟨o27, h27, h⟩ := bdS h
      refine x_sub [1, 2, 0] rfl ?_
      refine L27 v0 v1 N 0 M8 o27 h27 ?_
      refine x_iconst F (v := 0) dX11_restore_58 (by decide) ?_
      refine x_istore_n F (lv' := [(2, .int 0), (0, .ref (b + v0)), (1, .int v1)]) dX11_restore_59 rfl (by decide) rfl ?_
      have L60 : ∀ (v0 : Nat) (v1 : Int32) (n : Nat) (v2 : Int32) (M : Mem) (o : Mem), fX11_restore_L60 N v0 v1 n v2 M = some o → X p l e ({ frames := 2, cells := 0, slots := 0, locals := 100 * 2 }) s m args below meth c (MQ below (Qm b D cy (some (.int r)) Mf) args s 0 0 (fun q => b ≤ q)) 3 b D cy 0 0 o 89 [(0, .ref (b + v0))] [] → X p l e ({ frames := 2, cells := 0, slots := 0, locals := 100 * 2 }) s m args below meth c (MQ below (Qm b D cy (some (.int r)) Mf) args s 0 0 (fun q => b ≤ q)) 3 b D cy 0 0 M 60 [(0, .ref (b + v0)), (1, .int v1), (2, .int v2)] [] := by
        intro v0 v1 n
        induction n with
        | zero => intro v2 M o h; exact absurd h (by rw [fX11_restore_L60]; exact fun z => by cases z)
        | succ n ih =>
          intro v2 M o h hE
          rw [fX11_restore_L60] at h
          refine x_iload_n F dX11_restore_60 rfl 2 rfl ?_
          refine x_bipush F (v := 16) dX11_restore_61 (by decide) ?_
          refine x_icmp_ge F (tgt := 89) dX11_restore_63 (by decide) (fun c63 => ?_) (fun c63 => ?_)
          · rw [if_pos c63] at h
            obtain rfl := Option.some.inj h
            refine x_sub [0] rfl ?_
            exact hE
          · rw [if_neg c63] at h
            refine x_aload_n F dX11_restore_66 rfl 0 rfl ?_
            obtain ⟨x67, c67, h⟩ := bdS h
            refine x_getR F (ci := 11) (C := RX11) (T := TX11) (N := 45) rfl ⟨by decide, rfl⟩ inU11 19 (by decide) (fun _ _ _ => rfl) wl_919 c67 dX11_restore_67 ?_
            refine x_iload_n F dX11_restore_70 rfl 2 rfl ?_
            refine x_aload_n F dX11_restore_71 rfl 0 rfl ?_
            obtain ⟨x72, c72, h⟩ := bdS h
            refine x_getR F (ci := 11) (C := RX11) (T := TX11) (N := 45) rfl ⟨by decide, rfl⟩ inU11 21 (by decide) (fun _ _ _ => rfl) wl_921 c72 dX11_restore_72 ?_
            refine x_bipush F (v := 16) dX11_restore_75 (by decide) ?_
            refine x_iload_n F dX11_restore_77 rfl 1 rfl ?_
            refine x_imul F dX11_restore_78 ?_
            refine x_iload_n F dX11_restore_79 rfl 2 rfl ?_
            refine x_iadd F dX11_restore_80 ?_
            obtain ⟨x81, c81, h⟩ := bdS h
            refine x_aL F c81 dX11_restore_81 ?_
            obtain ⟨M82, c82, h⟩ := bdS h
            refine x_tL F c82 dX11_restore_82 ?_
            refine x_iinc F (v := v2 + 1) (lv' := [(2, .int (v2 + 1)), (0, .ref (b + v0)), (1, .int v1)]) dX11_restore_83 2 rfl rfl (by decide) rfl ?_
            refine x_goto F (tgt := 60) dX11_restore_86 (by decide) ?_
            refine x_sub [1, 2, 0] rfl ?_
            exact ih (v2 + 1) M82 o h hE
      obtain ⟨o60, h60, h⟩ := bdS h
      refine x_sub [1, 2, 0] rfl ?_
      refine L60 v0 v1 N 0 o27 o60 h60 ?_
      refine x_aload_n F dX11_restore_89 rfl 0 rfl ?_
      refine x_iconst F (v := 0) dX11_restore_90 (by decide) ?_
      obtain ⟨M91, c91, h⟩ := bdS h
      refine x_putI F (ci := 11) (C := RX11) (T := TX11) (N := 45) rfl ⟨by decide, rfl⟩ inU11 tyX11_ok nmX11 24 (by decide) rfl rfl wl_986 c91 dX11_restore_91 ?_
      refine x_iconst F (v := 1) dX11_restore_94 (by decide) ?_
      obtain ⟨rfl, rfl⟩ := retS h
      exact x_zret F hr hl (by decide) dX11_restore_95
    · rw [if_pos c20] at h
      refine x_iconst F (v := 0) dX11_restore_23 (by decide) ?_
      obtain ⟨rfl, rfl⟩ := retS h
      exact x_zret F hr hl (by decide) dX11_restore_24
theorem dX11_count_0 : decode cX11_count 0 = .ok (.aload_n 0, 1) := by decide +kernel
theorem dX11_count_1 : decode cX11_count 1 = .ok (.iconst 0, 1) := by decide +kernel
theorem dX11_count_2 : decode cX11_count 2 = .ok (.putfield 1, 3) := by decide +kernel
theorem dX11_count_5 : decode cX11_count 5 = .ok (.iload_n 1, 1) := by decide +kernel
theorem dX11_count_6 : decode cX11_count 6 = .ok (.tableswitch 78 0 5 #[38, 45, 52, 59, 66, 73], 38) := by decide +kernel
theorem dX11_count_44 : decode cX11_count 44 = .ok (.aload_n 0, 1) := by decide +kernel
theorem dX11_count_45 : decode cX11_count 45 = .ok (.getfield 98, 3) := by decide +kernel
theorem dX11_count_48 : decode cX11_count 48 = .ok (.iconst 0, 1) := by decide +kernel
theorem dX11_count_49 : decode cX11_count 49 = .ok (.iaload, 1) := by decide +kernel
theorem dX11_count_50 : decode cX11_count 50 = .ok (.ireturn, 1) := by decide +kernel
theorem dX11_count_51 : decode cX11_count 51 = .ok (.aload_n 0, 1) := by decide +kernel
theorem dX11_count_52 : decode cX11_count 52 = .ok (.getfield 98, 3) := by decide +kernel
theorem dX11_count_55 : decode cX11_count 55 = .ok (.iconst 1, 1) := by decide +kernel
theorem dX11_count_56 : decode cX11_count 56 = .ok (.iaload, 1) := by decide +kernel
theorem dX11_count_57 : decode cX11_count 57 = .ok (.ireturn, 1) := by decide +kernel
theorem dX11_count_58 : decode cX11_count 58 = .ok (.aload_n 0, 1) := by decide +kernel
theorem dX11_count_59 : decode cX11_count 59 = .ok (.getfield 98, 3) := by decide +kernel
theorem dX11_count_62 : decode cX11_count 62 = .ok (.iconst 2, 1) := by decide +kernel
theorem dX11_count_63 : decode cX11_count 63 = .ok (.iaload, 1) := by decide +kernel
theorem dX11_count_64 : decode cX11_count 64 = .ok (.ireturn, 1) := by decide +kernel
theorem dX11_count_65 : decode cX11_count 65 = .ok (.aload_n 0, 1) := by decide +kernel
theorem dX11_count_66 : decode cX11_count 66 = .ok (.getfield 98, 3) := by decide +kernel
theorem dX11_count_69 : decode cX11_count 69 = .ok (.iconst 3, 1) := by decide +kernel
theorem dX11_count_70 : decode cX11_count 70 = .ok (.iaload, 1) := by decide +kernel
theorem dX11_count_71 : decode cX11_count 71 = .ok (.ireturn, 1) := by decide +kernel
theorem dX11_count_72 : decode cX11_count 72 = .ok (.aload_n 0, 1) := by decide +kernel
theorem dX11_count_73 : decode cX11_count 73 = .ok (.getfield 98, 3) := by decide +kernel
theorem dX11_count_76 : decode cX11_count 76 = .ok (.iconst 4, 1) := by decide +kernel
theorem dX11_count_77 : decode cX11_count 77 = .ok (.iaload, 1) := by decide +kernel
theorem dX11_count_78 : decode cX11_count 78 = .ok (.ireturn, 1) := by decide +kernel
theorem dX11_count_79 : decode cX11_count 79 = .ok (.aload_n 0, 1) := by decide +kernel
theorem dX11_count_80 : decode cX11_count 80 = .ok (.getfield 11, 3) := by decide +kernel
theorem dX11_count_83 : decode cX11_count 83 = .ok (.ireturn, 1) := by decide +kernel
theorem dX11_count_84 : decode cX11_count 84 = .ok (.iconst (-1), 1) := by decide +kernel
theorem dX11_count_85 : decode cX11_count 85 = .ok (.ireturn, 1) := by decide +kernel
def fX11_count (N : Nat) (v0 : Nat) (v1 : Int32) (M : Mem) : Option (Int32 × Mem) := ((pI M 11 v0 0 0).bind fun M2 => (if v1 = 0 then ((fR M2 11 v0 14).bind fun x45 => ((aI M2 x45 0).bind fun x49 => some (x49, M2))) else (if v1 = 1 then ((fR M2 11 v0 14).bind fun x52 => ((aI M2 x52 1).bind fun x56 => some (x56, M2))) else (if v1 = 2 then ((fR M2 11 v0 14).bind fun x59 => ((aI M2 x59 2).bind fun x63 => some (x63, M2))) else (if v1 = 3 then ((fR M2 11 v0 14).bind fun x66 => ((aI M2 x66 3).bind fun x70 => some (x70, M2))) else (if v1 = 4 then ((fR M2 11 v0 14).bind fun x73 => ((aI M2 x73 4).bind fun x77 => some (x77, M2))) else (if v1 = 5 then ((fI M2 11 v0 2).bind fun x80 => some (x80, M2)) else some ((-1), M2))))))))
set_option maxHeartbeats 4000000 in
set_option maxRecDepth 100000 in
theorem k_X11_count (l : Launch) (b : Nat) (D : va_G) (cy : Nat → ClassId) (N : Nat) (v0 : Nat) (v1 : Int32) (M : Mem) (r : Int32) (Mf : Mem) (h : fX11_count N v0 v1 M = some (r, Mf)) : Ct l yX11_count cX11_count 2 (some .int) 1 0 0 b D cy [.ref (b + v0), .int v1] M (some (.int r)) Mf := by
  refine Ct_of (own := RX11) (by decide) rfl (Nat.le_of_ble_eq_true rfl) ?_
  intro p e s m args below meth c F hr hl hmn
  unfold fX11_count at h
  show X p l e ({ frames := 1, cells := 0, slots := 0, locals := 100 * 1 }) s m args below meth c (MQ below (Qm b D cy (some (.int r)) Mf) args s 0 0 (fun q => b ≤ q)) 2 b D cy 0 0 M 0 [(0, .ref (b + v0)), (1, .int v1)] []
  refine x_aload_n F dX11_count_0 rfl 0 rfl ?_
  refine x_iconst F (v := 0) dX11_count_1 (by decide) ?_
  obtain ⟨M2, c2, h⟩ := bdS h
  refine x_putI F (ci := 11) (C := RX11) (T := TX11) (N := 45) rfl ⟨by decide, rfl⟩ inU11 tyX11_ok nmX11 0 (by decide) rfl rfl wl_845 c2 dX11_count_2 ?_
  refine x_iload_n F dX11_count_5 rfl 1 rfl ?_
  by_cases c6_0 : v1 = 0
  · rw [if_pos c6_0] at h
    refine x_tableIn F (off := 38) (tgt := 44) dX11_count_6 (by rw [c6_0]; decide) (by rw [c6_0]; decide) (by rw [c6_0]; decide) (by decide) ?_
    refine x_aload_n F dX11_count_44 rfl 0 rfl ?_
    obtain ⟨x45, c45, h⟩ := bdS h
    refine x_getR F (ci := 11) (C := RX11) (T := TX11) (N := 45) rfl ⟨by decide, rfl⟩ inU11 14 (by decide) (fun _ _ _ => rfl) wl_913 c45 dX11_count_45 ?_
    refine x_iconst F (v := 0) dX11_count_48 (by decide) ?_
    obtain ⟨x49, c49, h⟩ := bdS h
    refine x_aI F c49 dX11_count_49 ?_
    obtain ⟨rfl, rfl⟩ := retS h
    exact x_iret F hr hl dX11_count_50
  rw [if_neg c6_0] at h
  by_cases c6_1 : v1 = 1
  · rw [if_pos c6_1] at h
    refine x_tableIn F (off := 45) (tgt := 51) dX11_count_6 (by rw [c6_1]; decide) (by rw [c6_1]; decide) (by rw [c6_1]; decide) (by decide) ?_
    refine x_aload_n F dX11_count_51 rfl 0 rfl ?_
    obtain ⟨x52, c52, h⟩ := bdS h
    refine x_getR F (ci := 11) (C := RX11) (T := TX11) (N := 45) rfl ⟨by decide, rfl⟩ inU11 14 (by decide) (fun _ _ _ => rfl) wl_913 c52 dX11_count_52 ?_
    refine x_iconst F (v := 1) dX11_count_55 (by decide) ?_
    obtain ⟨x56, c56, h⟩ := bdS h
    refine x_aI F c56 dX11_count_56 ?_
    obtain ⟨rfl, rfl⟩ := retS h
    exact x_iret F hr hl dX11_count_57
  rw [if_neg c6_1] at h
  by_cases c6_2 : v1 = 2
  · rw [if_pos c6_2] at h
    refine x_tableIn F (off := 52) (tgt := 58) dX11_count_6 (by rw [c6_2]; decide) (by rw [c6_2]; decide) (by rw [c6_2]; decide) (by decide) ?_
    refine x_aload_n F dX11_count_58 rfl 0 rfl ?_
    obtain ⟨x59, c59, h⟩ := bdS h
    refine x_getR F (ci := 11) (C := RX11) (T := TX11) (N := 45) rfl ⟨by decide, rfl⟩ inU11 14 (by decide) (fun _ _ _ => rfl) wl_913 c59 dX11_count_59 ?_
    refine x_iconst F (v := 2) dX11_count_62 (by decide) ?_
    obtain ⟨x63, c63, h⟩ := bdS h
    refine x_aI F c63 dX11_count_63 ?_
    obtain ⟨rfl, rfl⟩ := retS h
    exact x_iret F hr hl dX11_count_64
  rw [if_neg c6_2] at h
  by_cases c6_3 : v1 = 3
  · rw [if_pos c6_3] at h
    refine x_tableIn F (off := 59) (tgt := 65) dX11_count_6 (by rw [c6_3]; decide) (by rw [c6_3]; decide) (by rw [c6_3]; decide) (by decide) ?_
    refine x_aload_n F dX11_count_65 rfl 0 rfl ?_
    obtain ⟨x66, c66, h⟩ := bdS h
    refine x_getR F (ci := 11) (C := RX11) (T := TX11) (N := 45) rfl ⟨by decide, rfl⟩ inU11 14 (by decide) (fun _ _ _ => rfl) wl_913 c66 dX11_count_66 ?_
    refine x_iconst F (v := 3) dX11_count_69 (by decide) ?_
    obtain ⟨x70, c70, h⟩ := bdS h
    refine x_aI F c70 dX11_count_70 ?_
    obtain ⟨rfl, rfl⟩ := retS h
    exact x_iret F hr hl dX11_count_71
  rw [if_neg c6_3] at h
  by_cases c6_4 : v1 = 4
  · rw [if_pos c6_4] at h
    refine x_tableIn F (off := 66) (tgt := 72) dX11_count_6 (by rw [c6_4]; decide) (by rw [c6_4]; decide) (by rw [c6_4]; decide) (by decide) ?_
    refine x_aload_n F dX11_count_72 rfl 0 rfl ?_
    obtain ⟨x73, c73, h⟩ := bdS h
    refine x_getR F (ci := 11) (C := RX11) (T := TX11) (N := 45) rfl ⟨by decide, rfl⟩ inU11 14 (by decide) (fun _ _ _ => rfl) wl_913 c73 dX11_count_73 ?_
    refine x_iconst F (v := 4) dX11_count_76 (by decide) ?_
    obtain ⟨x77, c77, h⟩ := bdS h
    refine x_aI F c77 dX11_count_77 ?_
    obtain ⟨rfl, rfl⟩ := retS h
    exact x_iret F hr hl dX11_count_78
  rw [if_neg c6_4] at h
  by_cases c6_5 : v1 = 5
  · rw [if_pos c6_5] at h
    refine x_tableIn F (off := 73) (tgt := 79) dX11_count_6 (by rw [c6_5]; decide) (by rw [c6_5]; decide) (by rw [c6_5]; decide) (by decide) ?_
    refine x_aload_n F dX11_count_79 rfl 0 rfl ?_
    obtain ⟨x80, c80, h⟩ := bdS h
    refine x_getI F (ci := 11) (C := RX11) (T := TX11) (N := 45) rfl ⟨by decide, rfl⟩ inU11 2 (by decide) (fun _ _ _ => rfl) wl_849 c80 dX11_count_80 ?_
    obtain ⟨rfl, rfl⟩ := retS h
    exact x_iret F hr hl dX11_count_83
  rw [if_neg c6_5] at h
  refine x_tableOut F (tgt := 84) dX11_count_6 (by have q0 := sw_ne (t := 0) c6_0 (by decide); have q1 := sw_ne (t := 1) c6_1 (by decide); have q2 := sw_ne (t := 2) c6_2 (by decide); have q3 := sw_ne (t := 3) c6_3 (by decide); have q4 := sw_ne (t := 4) c6_4 (by decide); have q5 := sw_ne (t := 5) c6_5 (by decide); omega) (by decide) ?_
  refine x_iconst F (v := (-1)) dX11_count_84 (by decide) ?_
  obtain ⟨rfl, rfl⟩ := retS h
  exact x_iret F hr hl dX11_count_85
