set_option maxRecDepth 20000 in
theorem start_K {s : State} {args : Array Value} (hts : ∀ w ∈ lw_tbl, w.before args s = true) : ∃ (D : va_G) (cy : Nat → ClassId), va_K D vwCl (ty6 cy) s := by
  have hw : ∀ w ∈ WL, w.before args s = true := fun w h => hts w (WL_tbl w h)
  obtain ⟨c0, f0, h0⟩ := u_known (C := RX0) (T := TX0) (N := 12) (n := 12) hw inU0 (hw _ wl_375)
  obtain ⟨c1, f1, h1⟩ := u_known (C := RX1) (T := TX1) (N := 11) (n := 11) hw inU1 (hw _ wl_629)
  obtain ⟨c2, f2, h2⟩ := u_known (C := RX2) (T := TX2) (N := 2) (n := 2) hw inU2 (hw _ wl_645)
  obtain ⟨c3, f3, h3⟩ := u_known (C := RX3) (T := TX3) (N := 3) (n := 3) hw inU3 (hw _ wl_636)
  obtain ⟨c4, f4, h4⟩ := u_known (C := RX4) (T := TX4) (N := 4) (n := 4) hw inU4 (hw _ wl_639)
  obtain ⟨c5, f5, h5⟩ := u_known (C := RX5) (T := TX5) (N := 3) (n := 3) hw inU5 (hw _ wl_625)
  obtain ⟨c6, f6, h6⟩ := u_known (C := RX6) (T := TX6) (N := 5) (n := 5) hw inU6 (hw _ wl_642)
  obtain ⟨c7, f7, h7⟩ := u_known (C := RX7) (T := TX7) (N := 7) (n := 7) hw inU7 (hw _ wl_632)
  obtain ⟨c8, f8, h8⟩ := u_known (C := RX8) (T := TX8) (N := 17) (n := 17) hw inU8 (hw _ wl_618)
  obtain ⟨c9, f9, h9⟩ := u_known (C := RX9) (T := TX9) (N := 12) (n := 12) hw inU9 (hw _ wl_615)
  obtain ⟨c10, f10, h10⟩ := u_known (C := RX10) (T := TX10) (N := 19) (n := 19) hw inU10 (hw _ wl_1284)
  obtain ⟨c11, f11, h11⟩ := u_known (C := RX11) (T := TX11) (N := 45) (n := 45) hw inU11 (hw _ wl_1286)
  obtain ⟨ai, ki, mi, pi, qi, ri⟩ := Cond.arrayClass_spec (hw _ wl_5)
  obtain ⟨aj, kj, mj, pj, qj, rj⟩ := Cond.arrayClass_spec (hw _ wl_485)
  obtain ⟨az, kz, mz, pz, qz, rz⟩ := Cond.arrayClass_spec (hw _ wl_652)
  obtain ⟨mb, ab, kb, pb, -, qb, rb, tb⟩ := Cond.arrayOver_spec (hts (.arrayOver (.object RX0)) (by decide +kernel))
  obtain ⟨ms, as, ks, ps, -, qs, rs, ts⟩ := Cond.arrayOver_spec (hts (.arrayOver (.object RX7)) (by decide +kernel))
  obtain ⟨mh, ah, kh, ph, -, qh, rh, th⟩ := Cond.arrayOver_spec (hts (.arrayOver (.object RX8)) (by decide +kernel))
  refine ⟨(fun k => ([c0, c1, c2, c3, c4, c5, c6, c7, c8, c9, c10, c11] : List ClassId).getD k 0, fun k => ([f0, f1, f2, f3, f4, f5, f6, f7, f8, f9, f10, f11] : List (Nat → Nat)).getD k (fun _ => 0)), fun k => ([ai, aj, az, ab, as, ah] : List ClassId).getD k 0, fun k q hq => ?_, fun k q hq => ?_⟩
  · match k, hq with
    | 0, hq => cases hq; exact h0
    | 1, hq => cases hq; exact h1
    | 2, hq => cases hq; exact h2
    | 3, hq => cases hq; exact h3
    | 4, hq => cases hq; exact h4
    | 5, hq => cases hq; exact h5
    | 6, hq => cases hq; exact h6
    | 7, hq => cases hq; exact h7
    | 8, hq => cases hq; exact h8
    | 9, hq => cases hq; exact h9
    | 10, hq => cases hq; exact h10
    | 11, hq => cases hq; exact h11
    | k + 12, hq => simp [vwCl] at hq
  · match k, hq with
    | 0, hq => cases hq; exact ⟨fun n z => ⟨fun _ h => (by cases h), ki, qi, mi, ri⟩, pi⟩
    | 1, hq => cases hq; exact ⟨fun n z => ⟨fun _ h => (by cases h), kj, qj, mj, rj⟩, pj⟩
    | 2, hq => cases hq; exact ⟨fun n z => ⟨fun _ h => (by cases h), kz, qz, mz, rz⟩, pz⟩
    | 3, hq => cases hq; exact ⟨fun n z => ⟨fun _ h => (by cases h), kb, qb, mb, rb⟩, kb, mb, qb, rb, pb, tb⟩
    | 4, hq => cases hq; exact ⟨fun n z => ⟨fun _ h => (by cases h), ks, qs, ms, rs⟩, ks, ms, qs, rs, ps, ts⟩
    | 5, hq => cases hq; exact ⟨fun n z => ⟨fun _ h => (by cases h), kh, qh, mh, rh⟩, kh, mh, qh, rh, ph, th⟩
    | k + 6, hq => simp [ty6] at hq
theorem stk_in : ∀ j, j < 10 → Cond.eq (.elem (.static "SandLetters" "STROKES" "[I") (.int (Int32.ofNat j))) (.int (stk j)) ∈ flatC (Jvm.Cond.and given_1 narrow_1) := by decide +kernel
theorem kw_in : ∀ j, j < 105 → Cond.eq (.elem (.field (.string "SandLetters$Tape" 51) "java/lang/String" "value" "[B") (.int (Int32.ofNat j))) (.int (kwB.getD j 0)) ∈ flatC (Jvm.Cond.and given_1 narrow_1) := by decide +kernel
theorem nest_in : ∀ w ∈ nestWs, w ∈ lw_tbl := by decide +kernel
theorem thr_in : ∀ w ∈ thrW, w ∈ lw_tbl := by decide +kernel
theorem msg_in : ∀ q ∈ msgs, Cond.stringRef RX10 q.1 q.2 ∈ lw_tbl ∧ Cond.exactly (.string RX10 q.1) "java/lang/String" ∈ flatC (Jvm.Cond.and given_1 narrow_1) := by decide +kernel
theorem nw_of {w : Cond} (h0 : ∀ w ∈ nestWs ++ thrW, w.onTables = true) (hw : w ∈ nestWs ++ thrW) {args : Array Value} {s : State} (h : w.before args s = true) : va_Nw w s := va_Nw.of (h0 w hw) h
theorem nw_ot : ∀ w ∈ nestWs ++ thrW, w.onTables = true := by decide +kernel
set_option maxRecDepth 20000 in
theorem start_E {s : State} {args : Array Value} (hts : ∀ w ∈ lw_tbl, w.before args s = true) (hgv : (Jvm.Cond.and given_1 narrow_1).before args s = true) : Ext s.heap.size s := by
  have hw : ∀ w ∈ WL, w.before args s = true := fun w h => hts w (WL_tbl w h)
  have hs := flat_of_before _ hgv
  have hA : ∀ a : Nat, a < s.heap.size → ¬ s.heap.size ≤ a := fun a h => Nat.not_le.mpr h
  obtain ⟨aS, g1, g2⟩ := va_Tof (tm := (.static "SandLetters" "STROKES" "[I")) (N := 10) (f := fun j => .int (stk j)) (A := fun q => s.heap.size ≤ q) (by decide) (hs (.arrayOf (.static "SandLetters" "STROKES" "[I") .int) (by decide +kernel)) (va_eqt (hs (.eq (.length (.static "SandLetters" "STROKES" "[I")) (.int 10)) (by decide +kernel))) (fun j hj => va_eqt (hs _ (stk_in j hj))) hA
  obtain ⟨adK, adV, g3, g4⟩ := vk_Sof (args := args) (s := s) (N := 1) (tm := fun _ => .string "SandLetters$Tape" 51) (len := [105]) (byt := [kwB]) (A := fun q => s.heap.size ≤ q) (fun i hi => by rw [show i = 0 by omega]; decide) (fun i hi => hs _ (by decide +kernel)) (fun i hi => hs _ (by decide +kernel)) (fun i hi => hs _ (by decide +kernel)) (fun i hi => by rw [show i = 0 by omega]; exact hs (.eq (.length (.field (.string "SandLetters$Tape" 51) "java/lang/String" "value" "[B")) (.int 105)) (by decide +kernel)) (fun i hi j hj => by rw [show i = 0 by omega] at hj ⊢; exact hs _ (kw_in j hj)) (fun i j hi hj hn => absurd (by omega) hn) hA
  refine ⟨⟨aS, va_Zof (hts (.laysStatic RX10 "STROKES" "[I") (by decide +kernel)) (hw _ wl_31) g1 hA, g2⟩, fun w h => va_Nw.of (nw_ot w (List.mem_append_left _ h)) (hts w (nest_in w h)), ⟨adK, adV, g3, vk_R.of (hts (.stringRef RX9 51 kwT) (by decide +kernel)) (g4 0 (by decide))⟩, va_Zof (hts (.laysStatic RJ0 "COMPACT_STRINGS" "Z") (by decide +kernel)) (hw _ wl_569) (va_eqt (hs (.eq (.static "java/lang/String" "COMPACT_STRINGS" "Z") (.int 1)) (by decide +kernel))) hA, va_Zqof (hts (.laysStatic RJ3 "SIOOBE_FORMATTER" "Ljava/util/function/BiFunction;") (by decide +kernel)) (hw _ wl_576) (hs (.isRef (.static "jdk/internal/util/Preconditions" "SIOOBE_FORMATTER" "Ljava/util/function/BiFunction;")) (by decide +kernel)) hA, vx_Zqof (hts (.laysStatic Bundle.tN "UNASSIGNED_STACK" Bundle.steD) (by decide +kernel)) (hts (.initialized Bundle.tN) (by decide +kernel)) (hs (.isRef (.static Bundle.tN "UNASSIGNED_STACK" Bundle.steD)) (by decide +kernel)) hA, vx_Zqof (hts (.laysStatic Bundle.tN "SUPPRESSED_SENTINEL" Bundle.listD) (by decide +kernel)) (hts (.initialized Bundle.tN) (by decide +kernel)) (hs (.isRef (.static Bundle.tN "SUPPRESSED_SENTINEL" Bundle.listD)) (by decide +kernel)) hA, fun q hq => ?_, va_AO.of (hts (.arrayOver (.object RX0)) (by decide +kernel)), va_AO.of (hts (.arrayOver (.object RX7)) (by decide +kernel)), va_AO.of (hts (.arrayOver (.object RX8)) (by decide +kernel)), fun w h => va_Nw.of (nw_ot w (List.mem_append_right _ h)) (hts w (thr_in w h))⟩
  obtain ⟨a, c, cA, kA, q1, -⟩ := Cond.exactly_spec (args := args) (first := s) (o := none) (s := s) (idx := []) (hs _ (msg_in q hq).2)
  exact ⟨a, vk_R.of (hts _ (msg_in q hq).1) q1⟩
/-- the memory ahead of all -/
def M00 : Mem := (fun _ _ => 0, fun _ _ => 0, fun _ _ => 0, fun _ => 0, fun _ => 0, 1)
/-- what is left: the law, as a function of the script, answers 1 -/
def LawPure : Prop := ∀ (xs : Nat → Int32) (L : Nat), L ≤ 384 → ∃ (N : Nat) (Mf : Mem), N ≤ 100000 ∧ fL_law_ N xs L M00 = some (1, Mf)
set_option maxHeartbeats 4000000 in
theorem whole_start_open (hp : LawPure) {p : Program} {e : Env} {s : State} {m : MethodId} {below : List Frame} {meth : Method} {c : Code} (l : Launch) (hlt : l.stackTraces = false) {b L : Nat} {xs : Nat → Int32} (hL : L ≤ 384) (C0 : lw_At p s m meth c b L xs) : W p l e room_1 s m #[Value.ref b] below meth c s.heap [] 0 0 (lw_Z below #[Value.ref b] s) (entryFrame m ([Value.ref b] : List Value).toArray 7) := by
  obtain ⟨hx, hb, hr, hml, hown, hts, hX, hbl, hlocks, hgv⟩ := C0
  obtain ⟨D, cy, hK⟩ := start_K hts
  obtain ⟨N, Mf, hN, h⟩ := hp xs L hL
  have F : Fx p s m #[Value.ref b] c cL_law_ 7 RL s.heap.size D cy := ⟨hx, hb, hml, hown, fun w hw => hts w (WL_tbl w hw), hK, Nat.le_refl _, start_E hts hgv⟩
  rw [lg_entry_eq]
  exact law_W hlt F hX hbl rfl hr hlocks N hN M00 Mf h s.heap [] _ ⟨fun _ => rfl, fun q hq => absurd rfl hq⟩ va_S.rf (lv_entry [Value.ref b] (Nat.le_of_ble_eq_true rfl))
