section ROWS2
variable {p : Program} {l : Launch} {e : Env} {R : Room} {s : State} {m : MethodId} {args : Array Value} {below : List Frame} {meth : Method} {c : Code} {Q : State → Prop}
variable {cc : ByteArray} {nL : Nat} {own : String} {b : Nat} {D : va_G} {cy : Nat → ClassId} {cells slots : Nat} {M : Mem} {pc : Nat} {lv : List (Nat × Value)} {rest : List Value}
/-- a new object of class c; a new row of kind kd -/
def nO (M : Mem) (c : Nat) : Option (Nat × Mem) := if mZ M ≠ 0 then some (mZ M - 1, nw M (c + 1) 0) else none
def nV (M : Mem) (kd : Nat) (n : Int32) : Option (Nat × Mem) := if mZ M ≠ 0 ∧ ¬ n < 0 ∧ n.toNatClampNeg ≤ 100000 then some (mZ M - 1, nw M kd n.toNatClampNeg) else none
theorem x_objInit (F : Fx p s m args c cc nL own b D cy) {idx a : Nat} (m1 : Cond.methodLink own idx objectInit ∈ WL) (m2 : Cond.instanceMethod objectInit ∈ WL) (m3 : Cond.code objectInit ⟨#[0xb1]⟩ 1 none ∈ WL) (hf : 1 ≤ R.frames) (hlo : 2 * 0 + (rest.map fun v => v.category).sum + 12 ≤ R.locals) (d : decode cc pc = .ok (.invokespecial idx, 3)) (kk : X p l e R s m args below meth c Q nL b D cy cells slots M (pc + 3) lv rest) : X p l e R s m args below meth c Q nL b D cy cells slots M pc lv (.ref a :: rest) := by
  intro H locs ls h1 h2 h3
  refine W.objInit F.1 F.2.1 F.2.2.2.1 (F.2.2.2.2.1 _ m1) (F.2.2.2.2.1 _ m2) (F.2.2.2.2.1 _ m3) rfl (by rw [F.2.2.1]; exact h3.1) rfl d hf hlo ?_
  exact W.eq (g2 := F0 m (pc + 3) ls rest) rfl (kk H locs ls h1 h2 h3)
theorem x_new (F : Fx p s m args c cc nL own b D cy) {ci : Nat} {C : String} {T : u_T} {N index : Nat} (hc : vwCl[ci]? = some (C, T, N)) (hci : ci < 12 ∧ fN ci = N) (hin : ∀ w ∈ u_ws C T N, w ∈ WL) (hto : ∀ k, k < N → parseFieldDescriptor (T k).2.2.1 = some (fT ci k)) (m1 : Cond.classLink own index C ∈ WL) (m2 : Cond.instantiable C N ∈ WL) (m3 : Cond.initialized C ∈ WL) {q : Nat} {M1 : Mem} (hv : nO M ci = some (q, M1)) (hcap : cells + 1 ≤ R.cells ∧ slots + N ≤ R.slots) (d : decode cc pc = .ok (.new index, 3)) (kk : X p l e R s m args below meth c Q nL b D cy (cells + 1) (slots + N) M1 (pc + 3) lv (.ref (b + q) :: rest)) : X p l e R s m args below meth c Q nL b D cy cells slots M pc lv rest := by
  intro H locs ls h1 h2 h3
  obtain ⟨hz, hv⟩ := gdS hv
  cases hv
  have hs := h1.1 hz
  have hKn := F.2.2.2.2.2.1.1 ci _ hc
  refine W.newcK F.1 F.2.1 F.2.2.2.1 (F.2.2.2.2.1 _ m1) (F.2.2.2.2.1 _ m2) (F.2.2.2.2.1 _ m3) rfl d hcap.1 hcap.2 hKn.2.1 (h := b + (mZ M - 1)) (by omega) fun H1 kC hkC e1 z1 o1 => ?_
  refine kk H1 locs ls (h1.new hz ?_ (by omega) (fun q hq => o1 q (by omega))) ⟨Nat.le_trans h2.1 (by omega), fun x g1 g2 => (o1 x (by have := h2.1; omega)).trans (h2.2.1 x g1 g2), h2.2.2⟩ h3
  have hk : mK (nw M (ci + 1) 0) (mZ M - 1) = ci + 1 := va_up_self _ _ _
  rw [cE_obj hk hci.1]
  refine ⟨_, hc, (u_born (fT ci) F.2.2.2.2.1 hin hKn hkC e1 hto).to (fun j hj => ?_)⟩
  have hj' : j < fN ci := by rw [hci.2]; exact hj
  rw [fv_0 (b := b) (fT_ok ci hci.1 j hj')]
  unfold vp_V
  rw [List.getD_eq_getElem?_getD, fE_get hj']
  simp only [nw, mI, mL, mR, va_up_self, Option.getD_some]
theorem x_nVI (F : Fx p s m args c cc nL own b D cy) {n : Int32} {N0 : Nat} (hN : n.toNatClampNeg = N0) (m1 : Cond.arrayClass .int ∈ WL) {q : Nat} {M1 : Mem} (hv : nV M 20 n = some (q, M1)) (hcap : cells + 1 ≤ R.cells ∧ slots + N0 ≤ R.slots) (d : decode cc pc = .ok (.newarray .int, 2)) (kk : X p l e R s m args below meth c Q nL b D cy (cells + 1) (slots + N0) M1 (pc + 2) lv (.ref (b + q) :: rest)) : X p l e R s m args below meth c Q nL b D cy cells slots M pc lv (.int n :: rest) := by
  intro H locs ls h1 h2 h3
  obtain ⟨⟨hz, hn, hmx⟩, hv⟩ := gdS hv
  cases hv
  have hs := h1.1 hz
  refine va_newaK (atype := .int) (g := F0 m pc ls (.int n :: rest)) F.1 F.2.1 (F.2.2.2.2.1 _ m1) rfl d rfl hn hN (by show N0 * componentBytes .int ≤ _; have z : componentBytes .int ≤ 8 := (by decide); have := Nat.mul_le_mul_left N0 z; omega) hcap.1 hcap.2 (h := b + (mZ M - 1)) (by omega) fun H1 cA e1 z1 o1 a1 f1 => ?_
  have hcA : cA = cy 0 := Option.some.inj (f1.symm.trans (F.2.2.2.2.2.1.2 0 _ rfl).2)
  subst hcA
  refine kk H1 locs ls (h1.new hz ?_ (by omega) (fun q hq => o1 q (by omega))) ⟨Nat.le_trans h2.1 (by omega), fun x g1 g2 => (o1 x (by have := h2.1; omega)).trans (h2.2.1 x g1 g2), h2.2.2⟩ h3
  have hk : mK (nw M 20 n.toNatClampNeg) (mZ M - 1) = 20 := va_up_self _ _ _
  rw [cE_20 hk]
  show H1[b + (mZ M - 1)]? = some (vp_cell _ _)
  rw [e1, ← hN]
  simp only [nw, mI, mN, va_up_self]
  rfl
theorem x_nVL (F : Fx p s m args c cc nL own b D cy) {n : Int32} {N0 : Nat} (hN : n.toNatClampNeg = N0) (m1 : Cond.arrayClass .long ∈ WL) {q : Nat} {M1 : Mem} (hv : nV M 21 n = some (q, M1)) (hcap : cells + 1 ≤ R.cells ∧ slots + N0 ≤ R.slots) (d : decode cc pc = .ok (.newarray .long, 2)) (kk : X p l e R s m args below meth c Q nL b D cy (cells + 1) (slots + N0) M1 (pc + 2) lv (.ref (b + q) :: rest)) : X p l e R s m args below meth c Q nL b D cy cells slots M pc lv (.int n :: rest) := by
  intro H locs ls h1 h2 h3
  obtain ⟨⟨hz, hn, hmx⟩, hv⟩ := gdS hv
  cases hv
  have hs := h1.1 hz
  refine va_newaK (atype := .long) (g := F0 m pc ls (.int n :: rest)) F.1 F.2.1 (F.2.2.2.2.1 _ m1) rfl d rfl hn hN (by show N0 * componentBytes .long ≤ _; have z : componentBytes .long ≤ 8 := (by decide); have := Nat.mul_le_mul_left N0 z; omega) hcap.1 hcap.2 (h := b + (mZ M - 1)) (by omega) fun H1 cA e1 z1 o1 a1 f1 => ?_
  have hcA : cA = cy 1 := Option.some.inj (f1.symm.trans (F.2.2.2.2.2.1.2 1 _ rfl).2)
  subst hcA
  refine kk H1 locs ls (h1.new hz ?_ (by omega) (fun q hq => o1 q (by omega))) ⟨Nat.le_trans h2.1 (by omega), fun x g1 g2 => (o1 x (by have := h2.1; omega)).trans (h2.2.1 x g1 g2), h2.2.2⟩ h3
  have hk : mK (nw M 21 n.toNatClampNeg) (mZ M - 1) = 21 := va_up_self _ _ _
  rw [cE_21 hk]
  show H1[b + (mZ M - 1)]? = some (vp_cell _ _)
  rw [e1, ← hN]
  simp only [nw, mL, mN, va_up_self]
  rfl
theorem x_nVZ (F : Fx p s m args c cc nL own b D cy) {n : Int32} {N0 : Nat} (hN : n.toNatClampNeg = N0) (m1 : Cond.arrayClass .boolean ∈ WL) {q : Nat} {M1 : Mem} (hv : nV M 22 n = some (q, M1)) (hcap : cells + 1 ≤ R.cells ∧ slots + N0 ≤ R.slots) (d : decode cc pc = .ok (.newarray .boolean, 2)) (kk : X p l e R s m args below meth c Q nL b D cy (cells + 1) (slots + N0) M1 (pc + 2) lv (.ref (b + q) :: rest)) : X p l e R s m args below meth c Q nL b D cy cells slots M pc lv (.int n :: rest) := by
  intro H locs ls h1 h2 h3
  obtain ⟨⟨hz, hn, hmx⟩, hv⟩ := gdS hv
  cases hv
  have hs := h1.1 hz
  refine va_newaK (atype := .boolean) (g := F0 m pc ls (.int n :: rest)) F.1 F.2.1 (F.2.2.2.2.1 _ m1) rfl d rfl hn hN (by show N0 * componentBytes .boolean ≤ _; have z : componentBytes .boolean ≤ 8 := (by decide); have := Nat.mul_le_mul_left N0 z; omega) hcap.1 hcap.2 (h := b + (mZ M - 1)) (by omega) fun H1 cA e1 z1 o1 a1 f1 => ?_
  have hcA : cA = cy 2 := Option.some.inj (f1.symm.trans (F.2.2.2.2.2.1.2 2 _ rfl).2)
  subst hcA
  refine kk H1 locs ls (h1.new hz ?_ (by omega) (fun q hq => o1 q (by omega))) ⟨Nat.le_trans h2.1 (by omega), fun x g1 g2 => (o1 x (by have := h2.1; omega)).trans (h2.2.1 x g1 g2), h2.2.2⟩ h3
  have hk : mK (nw M 22 n.toNatClampNeg) (mZ M - 1) = 22 := va_up_self _ _ _
  rw [cE_22 hk]
  show H1[b + (mZ M - 1)]? = some (vp_cell _ _)
  rw [e1, ← hN]
  simp only [nw, mI, mN, va_up_self]
  rfl
theorem grow (H : Heap) (x : Cell) : ∃ H1 : Heap, H.push x = H1 ∧ H1.size = H.size + 1 ∧ H1[H.size]? = some x ∧ ∀ q : Nat, q < H.size → H1[q]? = H[q]? := ⟨_, rfl, Array.size_push .., Array.getElem?_push_size, fun q hq => by simp [Array.getElem?_push, Nat.ne_of_lt hq]⟩
theorem x_nR23 (F : Fx p s m args c cc nL own b D cy) {index : Nat} {n : Int32} {N0 : Nat} (hN : n.toNatClampNeg = N0) (m1 : Cond.classLink own index RX0 ∈ WL) {q : Nat} {M1 : Mem} (hv : nV M 23 n = some (q, M1)) (hcap : cells + 1 ≤ R.cells ∧ slots + N0 ≤ R.slots) (d : decode cc pc = .ok (.anewarray index, 3)) (kk : X p l e R s m args below meth c Q nL b D cy (cells + 1) (slots + N0) M1 (pc + 3) lv (.ref (b + q) :: rest)) : X p l e R s m args below meth c Q nL b D cy cells slots M pc lv (.int n :: rest) := by
  intro H locs ls h1 h2 h3
  obtain ⟨⟨hz, hn, hmx⟩, hv⟩ := gdS hv
  cases hv
  subst hN
  have hs := h1.1 hz
  have hao := F.2.2.2.2.2.2.2.2.2.2.2.2.2.2.2.1
  refine W.anew (g := F0 m pc ls (.int n :: rest)) F.1 F.2.1 F.2.2.2.1 (F.2.2.2.2.1 _ m1) (va_AO.use hao) rfl d rfl hn (by omega) hcap.1 hcap.2 fun cA kA comp f1 f2 f3 f4 => ?_
  obtain ⟨kB, cb, q1, q2, q3, q4⟩ := (F.2.2.2.2.2.1.2 3 _ rfl).2
  have hcA : cA = cy 3 := Option.some.inj (f1.symm.trans q4)
  subst hcA
  have ha : H.size = b + (mZ M - 1) := by omega
  rw [ha]
  obtain ⟨H1, eH, z1, e1, o1⟩ := grow H ({ cls := cy 3, slots := Array.replicate n.toNatClampNeg .null, vm := .none } : Cell)
  rw [eH]
  rw [arrV_new] at e1
  refine kk H1 locs ls (h1.new hz ?_ z1 o1) (s_on h2 (by omega) fun x lt _ => o1 x lt) h3
  have hk : mK (nw M 23 n.toNatClampNeg) (mZ M - 1) = 23 := va_up_self _ _ _
  rw [cE_23 (by rw [hk]; decide), hk]
  show H1[b + (mZ M - 1)]? = some (vp_cell _ _)
  rw [← ha, e1]
  simp only [nw, mR, mN, va_up_self]
  rfl
theorem x_nR24 (F : Fx p s m args c cc nL own b D cy) {index : Nat} {n : Int32} {N0 : Nat} (hN : n.toNatClampNeg = N0) (m1 : Cond.classLink own index RX7 ∈ WL) {q : Nat} {M1 : Mem} (hv : nV M 24 n = some (q, M1)) (hcap : cells + 1 ≤ R.cells ∧ slots + N0 ≤ R.slots) (d : decode cc pc = .ok (.anewarray index, 3)) (kk : X p l e R s m args below meth c Q nL b D cy (cells + 1) (slots + N0) M1 (pc + 3) lv (.ref (b + q) :: rest)) : X p l e R s m args below meth c Q nL b D cy cells slots M pc lv (.int n :: rest) := by
  intro H locs ls h1 h2 h3
  obtain ⟨⟨hz, hn, hmx⟩, hv⟩ := gdS hv
  cases hv
  subst hN
  have hs := h1.1 hz
  have hao := F.2.2.2.2.2.2.2.2.2.2.2.2.2.2.2.2.1
  refine W.anew (g := F0 m pc ls (.int n :: rest)) F.1 F.2.1 F.2.2.2.1 (F.2.2.2.2.1 _ m1) (va_AO.use hao) rfl d rfl hn (by omega) hcap.1 hcap.2 fun cA kA comp f1 f2 f3 f4 => ?_
  obtain ⟨kB, cb, q1, q2, q3, q4⟩ := (F.2.2.2.2.2.1.2 4 _ rfl).2
  have hcA : cA = cy 4 := Option.some.inj (f1.symm.trans q4)
  subst hcA
  have ha : H.size = b + (mZ M - 1) := by omega
  rw [ha]
  obtain ⟨H1, eH, z1, e1, o1⟩ := grow H ({ cls := cy 4, slots := Array.replicate n.toNatClampNeg .null, vm := .none } : Cell)
  rw [eH]
  rw [arrV_new] at e1
  refine kk H1 locs ls (h1.new hz ?_ z1 o1) (s_on h2 (by omega) fun x lt _ => o1 x lt) h3
  have hk : mK (nw M 24 n.toNatClampNeg) (mZ M - 1) = 24 := va_up_self _ _ _
  rw [cE_23 (by rw [hk]; decide), hk]
  show H1[b + (mZ M - 1)]? = some (vp_cell _ _)
  rw [← ha, e1]
  simp only [nw, mR, mN, va_up_self]
  rfl
theorem x_nR25 (F : Fx p s m args c cc nL own b D cy) {index : Nat} {n : Int32} {N0 : Nat} (hN : n.toNatClampNeg = N0) (m1 : Cond.classLink own index RX8 ∈ WL) {q : Nat} {M1 : Mem} (hv : nV M 25 n = some (q, M1)) (hcap : cells + 1 ≤ R.cells ∧ slots + N0 ≤ R.slots) (d : decode cc pc = .ok (.anewarray index, 3)) (kk : X p l e R s m args below meth c Q nL b D cy (cells + 1) (slots + N0) M1 (pc + 3) lv (.ref (b + q) :: rest)) : X p l e R s m args below meth c Q nL b D cy cells slots M pc lv (.int n :: rest) := by
  intro H locs ls h1 h2 h3
  obtain ⟨⟨hz, hn, hmx⟩, hv⟩ := gdS hv
  cases hv
  subst hN
  have hs := h1.1 hz
  have hao := F.2.2.2.2.2.2.2.2.2.2.2.2.2.2.2.2.2.1
  refine W.anew (g := F0 m pc ls (.int n :: rest)) F.1 F.2.1 F.2.2.2.1 (F.2.2.2.2.1 _ m1) (va_AO.use hao) rfl d rfl hn (by omega) hcap.1 hcap.2 fun cA kA comp f1 f2 f3 f4 => ?_
  obtain ⟨kB, cb, q1, q2, q3, q4⟩ := (F.2.2.2.2.2.1.2 5 _ rfl).2
  have hcA : cA = cy 5 := Option.some.inj (f1.symm.trans q4)
  subst hcA
  have ha : H.size = b + (mZ M - 1) := by omega
  rw [ha]
  obtain ⟨H1, eH, z1, e1, o1⟩ := grow H ({ cls := cy 5, slots := Array.replicate n.toNatClampNeg .null, vm := .none } : Cell)
  rw [eH]
  rw [arrV_new] at e1
  refine kk H1 locs ls (h1.new hz ?_ z1 o1) (s_on h2 (by omega) fun x lt _ => o1 x lt) h3
  have hk : mK (nw M 25 n.toNatClampNeg) (mZ M - 1) = 25 := va_up_self _ _ _
  rw [cE_23 (by rw [hk]; decide), hk]
  show H1[b + (mZ M - 1)]? = some (vp_cell _ _)
  rw [← ha, e1]
  simp only [nw, mR, mN, va_up_self]
  rfl
end ROWS2
