section
variable {I J : Nat → Nat → Int32} {L K : Nat → Nat → Int64} {r : Bool} {N : Nat} {T : Nat → Nat} {n m : Nat} {t : Tok} {e : Nat × Nat} {o : Oc} {H : Nat → Nat} {W : Nat → List Nat} {c : Bool}
/-! laws -/
def dupN (H : Nat → Nat) (v : Nat) : Bool := exb (fun l => decide (H (29 + l) = v)) (H 2)
def ldO (H : Nat → Nat) (o : Oc) : Oc := match o with
  | .inl e => .inl e
  | .inr t => if t.1 = 2 ∧ dupN H t.2.2.2.2 = true then .inl (3, t.2.1) else .inr t
def lwO (n : Nat) (T : Nat → Nat) (m : Nat) (H : Nat → Nat) (W : Nat → List Nat) (t : Tok) : Oc := if H 2 < 6 then oN n T m 10 999 (ldO H (nmO n T m H W (nt n T m t))) else .inl (4, t.2.1)
def lwH (n : Nat) (T : Nat → Nat) (m : Nat) (H : Nat → Nat) (W : Nat → List Nat) (t : Tok) : Nat → Nat := u1 (u1 H 2 (H 2 + 1)) (29 + H 2) (vN 10 999 (ldO H (nmO n T m H W (nt n T m t))))
def lwW (n : Nat) (T : Nat → Nat) (m : Nat) (H : Nat → Nat) (W : Nat → List Nat) (t : Tok) : Nat → List Nat := u1 W (10 + H 2) (nt n T m t).2.2.2.1
theorem ldO_R (h : isR (ldO H o) = true) : isR o = true ∧ ldO H o = o := by
  cases o with
  | inl e => cases h
  | inr t =>
    unfold ldO at h ⊢
    dsimp only at h ⊢
    by_cases c1 : t.1 = 2 ∧ dupN H t.2.2.2.2 = true
    · rw [if_pos c1] at h; cases h
    · rw [if_neg c1]; exact ⟨rfl, rfl⟩
theorem lw_ok (hO : hOk H) (hn : nOk H W) (h : CqR n T m (.inr t) I L) (hR : isR (lwO n T m H W t) = true) : hOk (lwH n T m H W t) ∧ nOk (lwH n T m H W t) (lwW n T m H W t) := by
  have o0 := hO.1; have o1 := hO.2.1; have o2 := hO.2.2.1; have o3 := hO.2.2.2.1; have o4 := hO.2.2.2.2.1; have o5 := hO.2.2.2.2.2.1
  obtain ⟨_, _, _, _, _, _, p1, p2, p3, p4⟩ := hO
  unfold lwO at hR
  by_cases c0 : H 2 < 6
  · rw [if_pos c0] at hR
    obtain ⟨z1, z2, z3⟩ := oN_R hR
    obtain ⟨z7, z8, z9⟩ := nmO_R (ldO_R z1).1
    have hw := isNm_w (nt_ok h.1 h.2.2.2) z7
    unfold lwH lwW
    generalize vN 10 999 (ldO H (nmO n T m H W (nt n T m t))) = va at z2 z3
    have e0 : u1 (u1 H 2 (H 2 + 1)) (29 + H 2) va 2 = H 2 + 1 := by rw [u1_ne (by omega), u1_eq]
    have ek : ∀ k, k ≠ 2 → k ≠ 29 + H 2 → u1 (u1 H 2 (H 2 + 1)) (29 + H 2) va k = H k := fun k y1 y2 => by rw [u1_ne y2, u1_ne y1]
    refine ⟨⟨by rw [ek 0 (by omega) (by omega)]; exact o0, by rw [ek 1 (by omega) (by omega)]; exact o1, by rw [e0]; omega, by rw [ek 3 (by omega) (by omega)]; exact o3, by rw [ek 4 (by omega) (by omega)]; exact o4, by rw [ek 4 (by omega) (by omega)]; exact o5, fun b hb => ?_, fun k hk => ?_, fun k hk => ?_, fun k hk => ?_⟩, fun b hb => ?_, fun k hk => ?_, fun k hk => ?_⟩
    · rw [ek 0 (by omega) (by omega)] at hb
      rw [ek (5 + b) (by omega) (by omega), ek (11 + b) (by omega) (by omega)]; exact p1 b hb
    · rw [ek 3 (by omega) (by omega)] at hk
      rw [ek (17 + k) (by omega) (by omega)]; exact p2 k hk
    · rw [ek 1 (by omega) (by omega)] at hk
      rw [ek (25 + k) (by omega) (by omega)]; exact p3 k hk
    · rw [e0] at hk
      by_cases hke : k = H 2
      · rw [hke, u1_eq]; exact ⟨z2, z3⟩
      · rw [ek (29 + k) (by omega) (by omega)]; exact p4 k (by omega)
    · rw [ek 0 (by omega) (by omega)] at hb
      rw [u1_ne (by omega)]; exact hn.1 b hb
    · rw [ek 1 (by omega) (by omega)] at hk
      rw [u1_ne (by omega)]; exact hn.2.1 k hk
    · rw [e0] at hk
      by_cases hke : k = H 2
      · rw [hke, u1_eq]; exact hw
      · rw [u1_ne (by omega)]; exact hn.2.2 k (by omega)
  · rw [if_neg c0] at hR; cases hR
theorem c_isLawNo (hN : 1200 < N) (hO : hOk H) (hs : ShR H W c I L) {v : Nat} (hv : v ≤ 999) : fX8_isLawNumber N 15 (i32 v) (mk I L r) = some (bi (dupN H v), mk I L r) := by
  have o0 := hO.1; have o1 := hO.2.1; have o2 := hO.2.2.1; have o3 := hO.2.2.2.1; have o4 := hO.2.2.2.2.1; have o5 := hO.2.2.2.2.2.1
  have q9 : I 15 9 = i32 (H 2) := hs.1.1.2.2.1
  have p4 := hO.2.2.2.2.2.2.2.2.2
  have s5 : ∀ l, l < H 2 → I 23 l = i32 (H (29 + l)) := hs.1.2.2.2.2.2.1
  unfold fX8_isLawNumber
  simp only [i_lit]
  rw [lp_ex (F := fun n' u => fX8_isLawNumber_L2 N 15 (i32 v) n' u (mk I L r)) (m := H 2) (fun l => H (29 + l) = v) (i32 1, mk I L r) (i32 0, mk I L r) ?_ ?_ ?_ (by omega)]
  · rw [bi_if']; rfl
  · intro n' k hk hP
    simp (disch := first | assumption | omega | rfl) only [i_rem, i_pred, i_addn1, i_lit, i_n1, i_add, i_mul, i_sub, i_le, i_lt, i_eq, i_ne1, n1_ne, n1_lt, n1_le, i_lt1, i_le1, bd_s, nar_bi, nar_0, nar_1, if_pos, if_neg, ↓reduceIte, reduceCtorEq, eq_self, if_true, if_false, not_true_eq_false, not_false_eq_true, s5_k, s5_fI, s5_fL, s5_pI, s5_pL, s5_z0, s5_z1, s5_fR1, s51_a, s51_t, s51_n, s5_fR2, s52_a, s52_t, s52_n, s5_fR3, s53_a, s53_t, s53_n, s5_fR5, s55_a, s55_t, s55_n, s5_fR7, s57_a, s57_t, s57_n, s5_fR8, s58_a, s58_t, s58_n, s5_fR10, s510_a, s510_t, s510_n, s5_fR11, s511_a, s511_t, s511_n, s5_fR12, s512_a, s512_t, s512_n, s5_fR13, s513_a, s513_t, s513_n, fX8_isLawNumber_L2, q9, s5 k hk, hP]
  · intro n' k hk hP
    have := p4 k hk
    simp (disch := first | assumption | omega | rfl) only [i_rem, i_pred, i_addn1, i_lit, i_n1, i_add, i_mul, i_sub, i_le, i_lt, i_eq, i_ne1, n1_ne, n1_lt, n1_le, i_lt1, i_le1, bd_s, nar_bi, nar_0, nar_1, if_pos, if_neg, ↓reduceIte, reduceCtorEq, eq_self, if_true, if_false, not_true_eq_false, not_false_eq_true, s5_k, s5_fI, s5_fL, s5_pI, s5_pL, s5_z0, s5_z1, s5_fR1, s51_a, s51_t, s51_n, s5_fR2, s52_a, s52_t, s52_n, s5_fR3, s53_a, s53_t, s53_n, s5_fR5, s55_a, s55_t, s55_n, s5_fR7, s57_a, s57_t, s57_n, s5_fR8, s58_a, s58_t, s58_n, s5_fR10, s510_a, s510_t, s510_n, s5_fR11, s511_a, s511_t, s511_n, s5_fR12, s512_a, s512_t, s512_n, s5_fR13, s513_a, s513_t, s513_n, fX8_isLawNumber_L2, q9, s5 k hk, hP]
  · intro n'
    simp (disch := first | assumption | omega | rfl) only [i_rem, i_pred, i_addn1, i_lit, i_n1, i_add, i_mul, i_sub, i_le, i_lt, i_eq, i_ne1, n1_ne, n1_lt, n1_le, i_lt1, i_le1, bd_s, nar_bi, nar_0, nar_1, if_pos, if_neg, ↓reduceIte, reduceCtorEq, eq_self, if_true, if_false, not_true_eq_false, not_false_eq_true, s5_k, s5_fI, s5_fL, s5_pI, s5_pL, s5_z0, s5_z1, s5_fR1, s51_a, s51_t, s51_n, s5_fR2, s52_a, s52_t, s52_n, s5_fR3, s53_a, s53_t, s53_n, s5_fR5, s55_a, s55_t, s55_n, s5_fR7, s57_a, s57_t, s57_n, s5_fR8, s58_a, s58_t, s58_n, s5_fR10, s510_a, s510_t, s510_n, s5_fR11, s511_a, s511_t, s511_n, s5_fR12, s512_a, s512_t, s512_n, s5_fR13, s513_a, s513_t, s513_n, fX8_isLawNumber_L2, q9]
theorem c_sg1 {l k x n' : Nat} (hl : l < 6) (hk : k < 3) (hx : x < 1000) : fX8_setLawSigns_L36 N 15 (i32 l) (n' + 1) (i32 x) (i32 k) (mk I L r) = fX8_setLawSigns_L36 N 15 (i32 l) n' (i32 (x / 10)) (i32 k + n1) (mk (up I 25 (l * 3 + k) (i32 (x % 10))) L r) := by
  have e2 : i32 x / i32 10 = i32 (x / 10) := i_div (by omega) (by omega) (by omega)
  have e1 : i32 x - i32 (x / 10 * 10) = i32 (x % 10) := by
    rw [i_sub (by omega)]; congr 1; omega
  have k0 : ¬ i32 k < i32 0 := by rw [i_lt (by omega) (by omega)]; omega
  simp (disch := first | assumption | omega | rfl) only [s5_k, s5_fI, s5_fL, s5_pI, s5_pL, s5_z0, s5_z1, s5_fR1, s51_a, s51_t, s51_n, s5_fR2, s52_a, s52_t, s52_n, s5_fR3, s53_a, s53_t, s53_n, s5_fR5, s55_a, s55_t, s55_n, s5_fR7, s57_a, s57_t, s57_n, s5_fR8, s58_a, s58_t, s58_n, s5_fR10, s510_a, s510_t, s510_n, s5_fR11, s511_a, s511_t, s511_n, s5_fR12, s512_a, s512_t, s512_n, s5_fR13, s513_a, s513_t, s513_n, i_lit, i_n1, bd_s, fX8_setLawSigns_L36, k0, if_false, ↓reduceIte, i_mul, i_add, e1, e2]
theorem c_sgE {l x n' : Nat} {M : Mem} : fX8_setLawSigns_L36 N 15 (i32 l) (n' + 1) (i32 x) (i32 0 + n1) M = some M := by
  have e0 : i32 0 + n1 < 0 := by decide
  simp only [fX8_setLawSigns_L36, e0, ↓reduceIte]
theorem c_setSigns (hN : 1200 < N) {l v : Nat} (hl : l < 6) (hv : 10 ≤ v ∧ v ≤ 999) : ∃ J, fX8_setLawSigns N 15 (i32 l) (i32 v) (mk I L r) = some ((), mk J L r) ∧ J 23 = u1 (I 23) l (i32 v) ∧ J 24 = u1 (I 24) l (i32 (if 100 ≤ v then 3 else 2)) ∧ (∀ k, k < (if 100 ≤ v then 3 else 2) → J 25 (l * 3 + k) = i32 (v / 10 ^ ((if 100 ≤ v then 3 else 2) - 1 - k) % 10)) ∧ (∀ j, j < l * 3 → J 25 j = I 25 j) ∧ ∀ z, z ≠ 23 → z ≠ 24 → z ≠ 25 → J z = I z := by
  obtain ⟨M, rfl⟩ : ∃ M, N = M + 5 := ⟨N - 5, by omega⟩
  have ru : ∀ (X : Nat → Nat → Int32) (a k : Nat) (w : Int32), up X a k w a = u1 (X a) k w := fun X a k w => by
    funext j; rw [up_at, u1]
  by_cases c1 : 100 ≤ v
  · simp only [c1, if_true]
    have e1 := c_sg1 (N := M + 5) (I := up (up I 23 l (i32 v)) 24 l (i32 3)) (L := L) (r := r) (l := l) (k := 2) (x := v) (n' := M + 4) hl (by omega) (by omega)
    have e2 := c_sg1 (N := M + 5) (I := up (up (up I 23 l (i32 v)) 24 l (i32 3)) 25 (l * 3 + 2) (i32 (v % 10))) (L := L) (r := r) (l := l) (k := 1) (x := v / 10) (n' := M + 3) hl (by omega) (by omega)
    have e3 := c_sg1 (N := M + 5) (I := up (up (up (up I 23 l (i32 v)) 24 l (i32 3)) 25 (l * 3 + 2) (i32 (v % 10))) 25 (l * 3 + 1) (i32 (v / 10 % 10))) (L := L) (r := r) (l := l) (k := 0) (x := v / 10 / 10) (n' := M + 2) hl (by omega) (by omega)
    rw [i_addn1 (by omega)] at e1 e2
    have e4 : fX8_setLawSigns_L36 (M + 5) 15 (i32 l) (M + 5) (i32 v) (i32 2) (mk (up (up I 23 l (i32 v)) 24 l (i32 3)) L r) = some (mk (up (up (up (up (up I 23 l (i32 v)) 24 l (i32 3)) 25 (l * 3 + 2) (i32 (v % 10))) 25 (l * 3 + 1) (i32 (v / 10 % 10))) 25 (l * 3 + 0) (i32 (v / 10 / 10 % 10))) L r) := by
      rw [e1]
      show fX8_setLawSigns_L36 (M + 5) 15 (i32 l) (M + 3 + 1) (i32 (v / 10)) (i32 1) _ = _
      rw [e2]
      show fX8_setLawSigns_L36 (M + 5) 15 (i32 l) (M + 2 + 1) (i32 (v / 10 / 10)) (i32 0) _ = _
      rw [e3, c_sgE]
    refine ⟨up (up (up (up (up I 23 l (i32 v)) 24 l (i32 3)) 25 (l * 3 + 2) (i32 (v % 10))) 25 (l * 3 + 1) (i32 (v / 10 % 10))) 25 (l * 3 + 0) (i32 (v / 10 / 10 % 10)), ?_, ?_, ?_, fun k hk => ?_, fun j hj => ?_, fun z z1 z2 z3 => ?_⟩
    · have kc : ¬ i32 v < i32 100 := by rw [i_lt (by omega) (by omega)]; omega
      unfold fX8_setLawSigns
      repeat (first | (with_reducible apply bd_eq; (focus (simp (disch := first | assumption | omega | rfl) only [i_rem, i_pred, i_addn1, i_lit, i_n1, i_add, i_mul, i_sub, i_le, i_lt, i_eq, i_ne1, n1_ne, n1_lt, n1_le, i_lt1, i_le1, bd_s, nar_bi, nar_0, nar_1, if_pos, if_neg, ↓reduceIte, reduceCtorEq, eq_self, if_true, if_false, not_true_eq_false, not_false_eq_true, s5_k, s5_fI, s5_fL, s5_pI, s5_pL, s5_z0, s5_z1, s5_fR1, s51_a, s51_t, s51_n, s5_fR2, s52_a, s52_t, s52_n, s5_fR3, s53_a, s53_t, s53_n, s5_fR5, s55_a, s55_t, s55_n, s5_fR7, s57_a, s57_t, s57_n, s5_fR8, s58_a, s58_t, s58_n, s5_fR10, s510_a, s510_t, s510_n, s5_fR11, s511_a, s511_t, s511_n, s5_fR12, s512_a, s512_t, s512_n, s5_fR13, s513_a, s513_t, s513_n]; first | done | (with_reducible rfl; done))); try dsimp only) | (with_reducible apply it_p; (focus (first | assumption | (simp (disch := first | assumption | omega | rfl) only [i_rem, i_pred, i_addn1, i_lit, i_n1, i_add, i_mul, i_sub, i_le, i_lt, i_eq, i_ne1, n1_ne, n1_lt, n1_le, i_lt1, i_le1, bd_s, nar_bi, nar_0, nar_1, if_pos, if_neg, ↓reduceIte, reduceCtorEq, eq_self, if_true, if_false, not_true_eq_false, not_false_eq_true, s5_k, s5_fI, s5_fL, s5_pI, s5_pL, s5_z0, s5_z1, s5_fR1, s51_a, s51_t, s51_n, s5_fR2, s52_a, s52_t, s52_n, s5_fR3, s53_a, s53_t, s53_n, s5_fR5, s55_a, s55_t, s55_n, s5_fR7, s57_a, s57_t, s57_n, s5_fR8, s58_a, s58_t, s58_n, s5_fR10, s510_a, s510_t, s510_n, s5_fR11, s511_a, s511_t, s511_n, s5_fR12, s512_a, s512_t, s512_n, s5_fR13, s513_a, s513_t, s513_n]; first | done | omega)))) | (with_reducible apply it_n; (focus (first | assumption | (simp (disch := first | assumption | omega | rfl) only [i_rem, i_pred, i_addn1, i_lit, i_n1, i_add, i_mul, i_sub, i_le, i_lt, i_eq, i_ne1, n1_ne, n1_lt, n1_le, i_lt1, i_le1, bd_s, nar_bi, nar_0, nar_1, if_pos, if_neg, ↓reduceIte, reduceCtorEq, eq_self, if_true, if_false, not_true_eq_false, not_false_eq_true, s5_k, s5_fI, s5_fL, s5_pI, s5_pL, s5_z0, s5_z1, s5_fR1, s51_a, s51_t, s51_n, s5_fR2, s52_a, s52_t, s52_n, s5_fR3, s53_a, s53_t, s53_n, s5_fR5, s55_a, s55_t, s55_n, s5_fR7, s57_a, s57_t, s57_n, s5_fR8, s58_a, s58_t, s58_n, s5_fR10, s510_a, s510_t, s510_n, s5_fR11, s511_a, s511_t, s511_n, s5_fR12, s512_a, s512_t, s512_n, s5_fR13, s513_a, s513_t, s513_n]; first | done | omega)))))
      unfold fX8_setLawSigns_J23
      repeat (first | (apply bd_eq; (focus (simp (disch := first | assumption | omega | rfl) only [i_rem, i_pred, i_addn1, i_lit, i_n1, i_add, i_mul, i_sub, i_le, i_lt, i_eq, i_ne1, n1_ne, n1_lt, n1_le, i_lt1, i_le1, bd_s, nar_bi, nar_0, nar_1, if_pos, if_neg, ↓reduceIte, reduceCtorEq, eq_self, if_true, if_false, not_true_eq_false, not_false_eq_true, s5_k, s5_fI, s5_fL, s5_pI, s5_pL, s5_z0, s5_z1, s5_fR1, s51_a, s51_t, s51_n, s5_fR2, s52_a, s52_t, s52_n, s5_fR3, s53_a, s53_t, s53_n, s5_fR5, s55_a, s55_t, s55_n, s5_fR7, s57_a, s57_t, s57_n, s5_fR8, s58_a, s58_t, s58_n, s5_fR10, s510_a, s510_t, s510_n, s5_fR11, s511_a, s511_t, s511_n, s5_fR12, s512_a, s512_t, s512_n, s5_fR13, s513_a, s513_t, s513_n, up_self, e4]; first | done | (with_reducible rfl; done))); try dsimp only) | (apply it_p; (focus (first | assumption | (simp (disch := first | assumption | omega | rfl) only [i_rem, i_pred, i_addn1, i_lit, i_n1, i_add, i_mul, i_sub, i_le, i_lt, i_eq, i_ne1, n1_ne, n1_lt, n1_le, i_lt1, i_le1, bd_s, nar_bi, nar_0, nar_1, if_pos, if_neg, ↓reduceIte, reduceCtorEq, eq_self, if_true, if_false, not_true_eq_false, not_false_eq_true, s5_k, s5_fI, s5_fL, s5_pI, s5_pL, s5_z0, s5_z1, s5_fR1, s51_a, s51_t, s51_n, s5_fR2, s52_a, s52_t, s52_n, s5_fR3, s53_a, s53_t, s53_n, s5_fR5, s55_a, s55_t, s55_n, s5_fR7, s57_a, s57_t, s57_n, s5_fR8, s58_a, s58_t, s58_n, s5_fR10, s510_a, s510_t, s510_n, s5_fR11, s511_a, s511_t, s511_n, s5_fR12, s512_a, s512_t, s512_n, s5_fR13, s513_a, s513_t, s513_n, up_self, e4]; first | done | omega)))) | (apply it_n; (focus (first | assumption | (simp (disch := first | assumption | omega | rfl) only [i_rem, i_pred, i_addn1, i_lit, i_n1, i_add, i_mul, i_sub, i_le, i_lt, i_eq, i_ne1, n1_ne, n1_lt, n1_le, i_lt1, i_le1, bd_s, nar_bi, nar_0, nar_1, if_pos, if_neg, ↓reduceIte, reduceCtorEq, eq_self, if_true, if_false, not_true_eq_false, not_false_eq_true, s5_k, s5_fI, s5_fL, s5_pI, s5_pL, s5_z0, s5_z1, s5_fR1, s51_a, s51_t, s51_n, s5_fR2, s52_a, s52_t, s52_n, s5_fR3, s53_a, s53_t, s53_n, s5_fR5, s55_a, s55_t, s55_n, s5_fR7, s57_a, s57_t, s57_n, s5_fR8, s58_a, s58_t, s58_n, s5_fR10, s510_a, s510_t, s510_n, s5_fR11, s511_a, s511_t, s511_n, s5_fR12, s512_a, s512_t, s512_n, s5_fR13, s513_a, s513_t, s513_n, up_self, e4]; first | done | omega)))))
      all_goals rfl
    · rw [up_row (by omega), up_row (by omega), up_row (by omega), up_row (by omega), ru]
    · rw [up_row (by omega), up_row (by omega), up_row (by omega), ru, up_row (by omega)]
    · obtain rfl | rfl | rfl : k = 0 ∨ k = 1 ∨ k = 2 := by omega
      · rw [up_self, Nat.div_div_eq_div_mul]
      · rw [up_ofk (by omega), up_self]
      · rw [up_ofk (by omega), up_ofk (by omega), up_self]
        show _ = i32 (v / 1 % 10)
        rw [Nat.div_one]
    · rw [up_ofk (by omega), up_ofk (by omega), up_ofk (by omega), up_row (by omega), up_row (by omega)]
    · simp (disch := omega) only [up_row]
  · simp only [c1, if_false]
    have e1 := c_sg1 (N := M + 5) (I := up (up I 23 l (i32 v)) 24 l (i32 2)) (L := L) (r := r) (l := l) (k := 1) (x := v) (n' := M + 4) hl (by omega) (by omega)
    have e2 := c_sg1 (N := M + 5) (I := up (up (up I 23 l (i32 v)) 24 l (i32 2)) 25 (l * 3 + 1) (i32 (v % 10))) (L := L) (r := r) (l := l) (k := 0) (x := v / 10) (n' := M + 3) hl (by omega) (by omega)
    rw [i_addn1 (by omega)] at e1
    have e4 : fX8_setLawSigns_L36 (M + 5) 15 (i32 l) (M + 5) (i32 v) (i32 1) (mk (up (up I 23 l (i32 v)) 24 l (i32 2)) L r) = some (mk (up (up (up (up I 23 l (i32 v)) 24 l (i32 2)) 25 (l * 3 + 1) (i32 (v % 10))) 25 (l * 3 + 0) (i32 (v / 10 % 10))) L r) := by
      rw [e1]
      show fX8_setLawSigns_L36 (M + 5) 15 (i32 l) (M + 3 + 1) (i32 (v / 10)) (i32 0) _ = _
      rw [e2, c_sgE]
    refine ⟨up (up (up (up I 23 l (i32 v)) 24 l (i32 2)) 25 (l * 3 + 1) (i32 (v % 10))) 25 (l * 3 + 0) (i32 (v / 10 % 10)), ?_, ?_, ?_, fun k hk => ?_, fun j hj => ?_, fun z z1 z2 z3 => ?_⟩
    · have kc : i32 v < i32 100 := by rw [i_lt (by omega) (by omega)]; omega
      unfold fX8_setLawSigns
      repeat (first | (with_reducible apply bd_eq; (focus (simp (disch := first | assumption | omega | rfl) only [i_rem, i_pred, i_addn1, i_lit, i_n1, i_add, i_mul, i_sub, i_le, i_lt, i_eq, i_ne1, n1_ne, n1_lt, n1_le, i_lt1, i_le1, bd_s, nar_bi, nar_0, nar_1, if_pos, if_neg, ↓reduceIte, reduceCtorEq, eq_self, if_true, if_false, not_true_eq_false, not_false_eq_true, s5_k, s5_fI, s5_fL, s5_pI, s5_pL, s5_z0, s5_z1, s5_fR1, s51_a, s51_t, s51_n, s5_fR2, s52_a, s52_t, s52_n, s5_fR3, s53_a, s53_t, s53_n, s5_fR5, s55_a, s55_t, s55_n, s5_fR7, s57_a, s57_t, s57_n, s5_fR8, s58_a, s58_t, s58_n, s5_fR10, s510_a, s510_t, s510_n, s5_fR11, s511_a, s511_t, s511_n, s5_fR12, s512_a, s512_t, s512_n, s5_fR13, s513_a, s513_t, s513_n]; first | done | (with_reducible rfl; done))); try dsimp only) | (with_reducible apply it_p; (focus (first | assumption | (simp (disch := first | assumption | omega | rfl) only [i_rem, i_pred, i_addn1, i_lit, i_n1, i_add, i_mul, i_sub, i_le, i_lt, i_eq, i_ne1, n1_ne, n1_lt, n1_le, i_lt1, i_le1, bd_s, nar_bi, nar_0, nar_1, if_pos, if_neg, ↓reduceIte, reduceCtorEq, eq_self, if_true, if_false, not_true_eq_false, not_false_eq_true, s5_k, s5_fI, s5_fL, s5_pI, s5_pL, s5_z0, s5_z1, s5_fR1, s51_a, s51_t, s51_n, s5_fR2, s52_a, s52_t, s52_n, s5_fR3, s53_a, s53_t, s53_n, s5_fR5, s55_a, s55_t, s55_n, s5_fR7, s57_a, s57_t, s57_n, s5_fR8, s58_a, s58_t, s58_n, s5_fR10, s510_a, s510_t, s510_n, s5_fR11, s511_a, s511_t, s511_n, s5_fR12, s512_a, s512_t, s512_n, s5_fR13, s513_a, s513_t, s513_n]; first | done | omega)))) | (with_reducible apply it_n; (focus (first | assumption | (simp (disch := first | assumption | omega | rfl) only [i_rem, i_pred, i_addn1, i_lit, i_n1, i_add, i_mul, i_sub, i_le, i_lt, i_eq, i_ne1, n1_ne, n1_lt, n1_le, i_lt1, i_le1, bd_s, nar_bi, nar_0, nar_1, if_pos, if_neg, ↓reduceIte, reduceCtorEq, eq_self, if_true, if_false, not_true_eq_false, not_false_eq_true, s5_k, s5_fI, s5_fL, s5_pI, s5_pL, s5_z0, s5_z1, s5_fR1, s51_a, s51_t, s51_n, s5_fR2, s52_a, s52_t, s52_n, s5_fR3, s53_a, s53_t, s53_n, s5_fR5, s55_a, s55_t, s55_n, s5_fR7, s57_a, s57_t, s57_n, s5_fR8, s58_a, s58_t, s58_n, s5_fR10, s510_a, s510_t, s510_n, s5_fR11, s511_a, s511_t, s511_n, s5_fR12, s512_a, s512_t, s512_n, s5_fR13, s513_a, s513_t, s513_n]; first | done | omega)))))
      unfold fX8_setLawSigns_J23
      repeat (first | (apply bd_eq; (focus (simp (disch := first | assumption | omega | rfl) only [i_rem, i_pred, i_addn1, i_lit, i_n1, i_add, i_mul, i_sub, i_le, i_lt, i_eq, i_ne1, n1_ne, n1_lt, n1_le, i_lt1, i_le1, bd_s, nar_bi, nar_0, nar_1, if_pos, if_neg, ↓reduceIte, reduceCtorEq, eq_self, if_true, if_false, not_true_eq_false, not_false_eq_true, s5_k, s5_fI, s5_fL, s5_pI, s5_pL, s5_z0, s5_z1, s5_fR1, s51_a, s51_t, s51_n, s5_fR2, s52_a, s52_t, s52_n, s5_fR3, s53_a, s53_t, s53_n, s5_fR5, s55_a, s55_t, s55_n, s5_fR7, s57_a, s57_t, s57_n, s5_fR8, s58_a, s58_t, s58_n, s5_fR10, s510_a, s510_t, s510_n, s5_fR11, s511_a, s511_t, s511_n, s5_fR12, s512_a, s512_t, s512_n, s5_fR13, s513_a, s513_t, s513_n, up_self, e4]; first | done | (with_reducible rfl; done))); try dsimp only) | (apply it_p; (focus (first | assumption | (simp (disch := first | assumption | omega | rfl) only [i_rem, i_pred, i_addn1, i_lit, i_n1, i_add, i_mul, i_sub, i_le, i_lt, i_eq, i_ne1, n1_ne, n1_lt, n1_le, i_lt1, i_le1, bd_s, nar_bi, nar_0, nar_1, if_pos, if_neg, ↓reduceIte, reduceCtorEq, eq_self, if_true, if_false, not_true_eq_false, not_false_eq_true, s5_k, s5_fI, s5_fL, s5_pI, s5_pL, s5_z0, s5_z1, s5_fR1, s51_a, s51_t, s51_n, s5_fR2, s52_a, s52_t, s52_n, s5_fR3, s53_a, s53_t, s53_n, s5_fR5, s55_a, s55_t, s55_n, s5_fR7, s57_a, s57_t, s57_n, s5_fR8, s58_a, s58_t, s58_n, s5_fR10, s510_a, s510_t, s510_n, s5_fR11, s511_a, s511_t, s511_n, s5_fR12, s512_a, s512_t, s512_n, s5_fR13, s513_a, s513_t, s513_n, up_self, e4]; first | done | omega)))) | (apply it_n; (focus (first | assumption | (simp (disch := first | assumption | omega | rfl) only [i_rem, i_pred, i_addn1, i_lit, i_n1, i_add, i_mul, i_sub, i_le, i_lt, i_eq, i_ne1, n1_ne, n1_lt, n1_le, i_lt1, i_le1, bd_s, nar_bi, nar_0, nar_1, if_pos, if_neg, ↓reduceIte, reduceCtorEq, eq_self, if_true, if_false, not_true_eq_false, not_false_eq_true, s5_k, s5_fI, s5_fL, s5_pI, s5_pL, s5_z0, s5_z1, s5_fR1, s51_a, s51_t, s51_n, s5_fR2, s52_a, s52_t, s52_n, s5_fR3, s53_a, s53_t, s53_n, s5_fR5, s55_a, s55_t, s55_n, s5_fR7, s57_a, s57_t, s57_n, s5_fR8, s58_a, s58_t, s58_n, s5_fR10, s510_a, s510_t, s510_n, s5_fR11, s511_a, s511_t, s511_n, s5_fR12, s512_a, s512_t, s512_n, s5_fR13, s513_a, s513_t, s513_n, up_self, e4]; first | done | omega)))))
      all_goals rfl
    · rw [up_row (by omega), up_row (by omega), up_row (by omega), ru]
    · rw [up_row (by omega), up_row (by omega), ru, up_row (by omega)]
    · obtain rfl | rfl : k = 0 ∨ k = 1 := by omega
      · rw [up_self]
      · rw [up_ofk (by omega), up_self]
        show _ = i32 (v / 1 % 10)
        rw [Nat.div_one]
    · rw [up_ofk (by omega), up_ofk (by omega), up_row (by omega), up_row (by omega)]
    · simp (disch := omega) only [up_row]
/-- a law's number: told before, or not -/
theorem c_law56 (hN : 1200 < N) (hO : hOk H) (hs : ShR H W c I L) (h : CqR n T m o I L) : ∃ J, CqR n T m (ldO H o) J L ∧ FrT 1 S4c I J L L ∧ ∀ v, (((fI (mk I L r) 9 1 10).bind fun x26 => (if x26 = 0 then ((fI (mk I L r) 9 1 5).bind fun x33 => (if x33 = 2 then ((fI (mk I L r) 9 1 7).bind fun x42 => (if mK (mk I L r) 15 = 9 then ((fX8_isLawNumber N 15 x42 (mk I L r)).bind fun (x45, M45) => (if x45 = 0 then fX8_readLaw_J56 N 15 1 v M45 else (if mK M45 1 = 10 then ((fX9_fail N 1 3 M45).bind fun (u53, M53) => fX8_readLaw_J56 N 15 1 v M53) else none))) else none)) else fX8_readLaw_J56 N 15 1 v (mk I L r))) else fX8_readLaw_J56 N 15 1 v (mk I L r))) : Option (Unit × Mem)) = fX8_readLaw_J56 N 15 1 v (mk J L r) := by
  cases o with
  | inl e =>
    refine ⟨I, h, FrT.rf, fun v => ?_⟩
    have y := (fault_0 h).2 rfl
    repeat (first | (with_reducible apply bd_eq; (focus (simp (disch := first | assumption | omega | rfl) only [i_rem, i_pred, i_addn1, i_lit, i_n1, i_add, i_mul, i_sub, i_le, i_lt, i_eq, i_ne1, n1_ne, n1_lt, n1_le, i_lt1, i_le1, bd_s, nar_bi, nar_0, nar_1, if_pos, if_neg, ↓reduceIte, reduceCtorEq, eq_self, if_true, if_false, not_true_eq_false, not_false_eq_true, tp_k, tp_fI, tp_fL, tp_pI, tp_pL, tp_z0, tp_z1, tp_fR0, tp0_a, tp0_t, tp0_n, tp_fR1, tp1_a, tp1_t, tp1_n, s5_k, s5_fI, s5_fL, s5_pI, s5_pL, s5_z0, s5_z1, s5_fR1, s51_a, s51_t, s51_n, s5_fR2, s52_a, s52_t, s52_n, s5_fR3, s53_a, s53_t, s53_n, s5_fR5, s55_a, s55_t, s55_n, s5_fR7, s57_a, s57_t, s57_n, s5_fR8, s58_a, s58_t, s58_n, s5_fR10, s510_a, s510_t, s510_n, s5_fR11, s511_a, s511_t, s511_n, s5_fR12, s512_a, s512_t, s512_n, s5_fR13, s513_a, s513_t, s513_n]; first | done | (with_reducible rfl; done))); try dsimp only) | (with_reducible apply it_p; (focus (first | assumption | (simp (disch := first | assumption | omega | rfl) only [i_rem, i_pred, i_addn1, i_lit, i_n1, i_add, i_mul, i_sub, i_le, i_lt, i_eq, i_ne1, n1_ne, n1_lt, n1_le, i_lt1, i_le1, bd_s, nar_bi, nar_0, nar_1, if_pos, if_neg, ↓reduceIte, reduceCtorEq, eq_self, if_true, if_false, not_true_eq_false, not_false_eq_true, tp_k, tp_fI, tp_fL, tp_pI, tp_pL, tp_z0, tp_z1, tp_fR0, tp0_a, tp0_t, tp0_n, tp_fR1, tp1_a, tp1_t, tp1_n, s5_k, s5_fI, s5_fL, s5_pI, s5_pL, s5_z0, s5_z1, s5_fR1, s51_a, s51_t, s51_n, s5_fR2, s52_a, s52_t, s52_n, s5_fR3, s53_a, s53_t, s53_n, s5_fR5, s55_a, s55_t, s55_n, s5_fR7, s57_a, s57_t, s57_n, s5_fR8, s58_a, s58_t, s58_n, s5_fR10, s510_a, s510_t, s510_n, s5_fR11, s511_a, s511_t, s511_n, s5_fR12, s512_a, s512_t, s512_n, s5_fR13, s513_a, s513_t, s513_n]; first | done | omega)))) | (with_reducible apply it_n; (focus (first | assumption | (simp (disch := first | assumption | omega | rfl) only [i_rem, i_pred, i_addn1, i_lit, i_n1, i_add, i_mul, i_sub, i_le, i_lt, i_eq, i_ne1, n1_ne, n1_lt, n1_le, i_lt1, i_le1, bd_s, nar_bi, nar_0, nar_1, if_pos, if_neg, ↓reduceIte, reduceCtorEq, eq_self, if_true, if_false, not_true_eq_false, not_false_eq_true, tp_k, tp_fI, tp_fL, tp_pI, tp_pL, tp_z0, tp_z1, tp_fR0, tp0_a, tp0_t, tp0_n, tp_fR1, tp1_a, tp1_t, tp1_n, s5_k, s5_fI, s5_fL, s5_pI, s5_pL, s5_z0, s5_z1, s5_fR1, s51_a, s51_t, s51_n, s5_fR2, s52_a, s52_t, s52_n, s5_fR3, s53_a, s53_t, s53_n, s5_fR5, s55_a, s55_t, s55_n, s5_fR7, s57_a, s57_t, s57_n, s5_fR8, s58_a, s58_t, s58_n, s5_fR10, s510_a, s510_t, s510_n, s5_fR11, s511_a, s511_t, s511_n, s5_fR12, s512_a, s512_t, s512_n, s5_fR13, s513_a, s513_t, s513_n]; first | done | omega)))))
    all_goals rfl
  | inr t =>
    have y := (fault_0 h).1 rfl
    have hk : I 1 5 = i32 t.1 := h.2.1.1
    have t4 : t.1 ≤ 4 := h.2.2.2.1
    unfold ldO
    dsimp only
    by_cases c1 : t.1 = 2
    · have h7 : I 1 7 = i32 t.2.2.2.2 := h.2.1.2.2.2.2.2 (Or.inl c1)
      have t9 : t.2.2.2.2 ≤ 999 := h.2.2.2.2.2.2.2.1 c1
      have e1 := c_isLawNo (N := N) (r := r) hN hO hs t9
      rw [c1] at hk
      cases c2 : dupN H t.2.2.2.2 with
      | true =>
        rw [c2] at e1
        rw [if_pos ⟨c1, rfl⟩]
        obtain ⟨J, e3, g1, g2⟩ := c_failR (N := N) (r := r) (k := 3) h (by omega)
        refine ⟨J, g1, g2, fun v => ?_⟩
        have k0 : ¬ bi true = i32 0 := by decide
        repeat (first | (with_reducible apply bd_eq; (focus (simp (disch := first | assumption | omega | rfl) only [i_rem, i_pred, i_addn1, i_lit, i_n1, i_add, i_mul, i_sub, i_le, i_lt, i_eq, i_ne1, n1_ne, n1_lt, n1_le, i_lt1, i_le1, bd_s, nar_bi, nar_0, nar_1, if_pos, if_neg, ↓reduceIte, reduceCtorEq, eq_self, if_true, if_false, not_true_eq_false, not_false_eq_true, tp_k, tp_fI, tp_fL, tp_pI, tp_pL, tp_z0, tp_z1, tp_fR0, tp0_a, tp0_t, tp0_n, tp_fR1, tp1_a, tp1_t, tp1_n, s5_k, s5_fI, s5_fL, s5_pI, s5_pL, s5_z0, s5_z1, s5_fR1, s51_a, s51_t, s51_n, s5_fR2, s52_a, s52_t, s52_n, s5_fR3, s53_a, s53_t, s53_n, s5_fR5, s55_a, s55_t, s55_n, s5_fR7, s57_a, s57_t, s57_n, s5_fR8, s58_a, s58_t, s58_n, s5_fR10, s510_a, s510_t, s510_n, s5_fR11, s511_a, s511_t, s511_n, s5_fR12, s512_a, s512_t, s512_n, s5_fR13, s513_a, s513_t, s513_n, y, hk, h7, e1, e3]; first | done | (with_reducible rfl; done))); try dsimp only) | (with_reducible apply it_p; (focus (first | assumption | (simp (disch := first | assumption | omega | rfl) only [i_rem, i_pred, i_addn1, i_lit, i_n1, i_add, i_mul, i_sub, i_le, i_lt, i_eq, i_ne1, n1_ne, n1_lt, n1_le, i_lt1, i_le1, bd_s, nar_bi, nar_0, nar_1, if_pos, if_neg, ↓reduceIte, reduceCtorEq, eq_self, if_true, if_false, not_true_eq_false, not_false_eq_true, tp_k, tp_fI, tp_fL, tp_pI, tp_pL, tp_z0, tp_z1, tp_fR0, tp0_a, tp0_t, tp0_n, tp_fR1, tp1_a, tp1_t, tp1_n, s5_k, s5_fI, s5_fL, s5_pI, s5_pL, s5_z0, s5_z1, s5_fR1, s51_a, s51_t, s51_n, s5_fR2, s52_a, s52_t, s52_n, s5_fR3, s53_a, s53_t, s53_n, s5_fR5, s55_a, s55_t, s55_n, s5_fR7, s57_a, s57_t, s57_n, s5_fR8, s58_a, s58_t, s58_n, s5_fR10, s510_a, s510_t, s510_n, s5_fR11, s511_a, s511_t, s511_n, s5_fR12, s512_a, s512_t, s512_n, s5_fR13, s513_a, s513_t, s513_n, y, hk, h7, e1, e3]; first | done | omega)))) | (with_reducible apply it_n; (focus (first | assumption | (simp (disch := first | assumption | omega | rfl) only [i_rem, i_pred, i_addn1, i_lit, i_n1, i_add, i_mul, i_sub, i_le, i_lt, i_eq, i_ne1, n1_ne, n1_lt, n1_le, i_lt1, i_le1, bd_s, nar_bi, nar_0, nar_1, if_pos, if_neg, ↓reduceIte, reduceCtorEq, eq_self, if_true, if_false, not_true_eq_false, not_false_eq_true, tp_k, tp_fI, tp_fL, tp_pI, tp_pL, tp_z0, tp_z1, tp_fR0, tp0_a, tp0_t, tp0_n, tp_fR1, tp1_a, tp1_t, tp1_n, s5_k, s5_fI, s5_fL, s5_pI, s5_pL, s5_z0, s5_z1, s5_fR1, s51_a, s51_t, s51_n, s5_fR2, s52_a, s52_t, s52_n, s5_fR3, s53_a, s53_t, s53_n, s5_fR5, s55_a, s55_t, s55_n, s5_fR7, s57_a, s57_t, s57_n, s5_fR8, s58_a, s58_t, s58_n, s5_fR10, s510_a, s510_t, s510_n, s5_fR11, s511_a, s511_t, s511_n, s5_fR12, s512_a, s512_t, s512_n, s5_fR13, s513_a, s513_t, s513_n, y, hk, h7, e1, e3]; first | done | omega)))))
        all_goals rfl
      | false =>
        rw [c2] at e1
        rw [if_neg (fun z => by cases z.2)]
        refine ⟨I, h, FrT.rf, fun v => ?_⟩
        have k0 : bi false = i32 0 := rfl
        repeat (first | (with_reducible apply bd_eq; (focus (simp (disch := first | assumption | omega | rfl) only [i_rem, i_pred, i_addn1, i_lit, i_n1, i_add, i_mul, i_sub, i_le, i_lt, i_eq, i_ne1, n1_ne, n1_lt, n1_le, i_lt1, i_le1, bd_s, nar_bi, nar_0, nar_1, if_pos, if_neg, ↓reduceIte, reduceCtorEq, eq_self, if_true, if_false, not_true_eq_false, not_false_eq_true, tp_k, tp_fI, tp_fL, tp_pI, tp_pL, tp_z0, tp_z1, tp_fR0, tp0_a, tp0_t, tp0_n, tp_fR1, tp1_a, tp1_t, tp1_n, s5_k, s5_fI, s5_fL, s5_pI, s5_pL, s5_z0, s5_z1, s5_fR1, s51_a, s51_t, s51_n, s5_fR2, s52_a, s52_t, s52_n, s5_fR3, s53_a, s53_t, s53_n, s5_fR5, s55_a, s55_t, s55_n, s5_fR7, s57_a, s57_t, s57_n, s5_fR8, s58_a, s58_t, s58_n, s5_fR10, s510_a, s510_t, s510_n, s5_fR11, s511_a, s511_t, s511_n, s5_fR12, s512_a, s512_t, s512_n, s5_fR13, s513_a, s513_t, s513_n, y, hk, h7, e1]; first | done | (with_reducible rfl; done))); try dsimp only) | (with_reducible apply it_p; (focus (first | assumption | (simp (disch := first | assumption | omega | rfl) only [i_rem, i_pred, i_addn1, i_lit, i_n1, i_add, i_mul, i_sub, i_le, i_lt, i_eq, i_ne1, n1_ne, n1_lt, n1_le, i_lt1, i_le1, bd_s, nar_bi, nar_0, nar_1, if_pos, if_neg, ↓reduceIte, reduceCtorEq, eq_self, if_true, if_false, not_true_eq_false, not_false_eq_true, tp_k, tp_fI, tp_fL, tp_pI, tp_pL, tp_z0, tp_z1, tp_fR0, tp0_a, tp0_t, tp0_n, tp_fR1, tp1_a, tp1_t, tp1_n, s5_k, s5_fI, s5_fL, s5_pI, s5_pL, s5_z0, s5_z1, s5_fR1, s51_a, s51_t, s51_n, s5_fR2, s52_a, s52_t, s52_n, s5_fR3, s53_a, s53_t, s53_n, s5_fR5, s55_a, s55_t, s55_n, s5_fR7, s57_a, s57_t, s57_n, s5_fR8, s58_a, s58_t, s58_n, s5_fR10, s510_a, s510_t, s510_n, s5_fR11, s511_a, s511_t, s511_n, s5_fR12, s512_a, s512_t, s512_n, s5_fR13, s513_a, s513_t, s513_n, y, hk, h7, e1]; first | done | omega)))) | (with_reducible apply it_n; (focus (first | assumption | (simp (disch := first | assumption | omega | rfl) only [i_rem, i_pred, i_addn1, i_lit, i_n1, i_add, i_mul, i_sub, i_le, i_lt, i_eq, i_ne1, n1_ne, n1_lt, n1_le, i_lt1, i_le1, bd_s, nar_bi, nar_0, nar_1, if_pos, if_neg, ↓reduceIte, reduceCtorEq, eq_self, if_true, if_false, not_true_eq_false, not_false_eq_true, tp_k, tp_fI, tp_fL, tp_pI, tp_pL, tp_z0, tp_z1, tp_fR0, tp0_a, tp0_t, tp0_n, tp_fR1, tp1_a, tp1_t, tp1_n, s5_k, s5_fI, s5_fL, s5_pI, s5_pL, s5_z0, s5_z1, s5_fR1, s51_a, s51_t, s51_n, s5_fR2, s52_a, s52_t, s52_n, s5_fR3, s53_a, s53_t, s53_n, s5_fR5, s55_a, s55_t, s55_n, s5_fR7, s57_a, s57_t, s57_n, s5_fR8, s58_a, s58_t, s58_n, s5_fR10, s510_a, s510_t, s510_n, s5_fR11, s511_a, s511_t, s511_n, s5_fR12, s512_a, s512_t, s512_n, s5_fR13, s513_a, s513_t, s513_n, y, hk, h7, e1]; first | done | omega)))))
        all_goals rfl
    · rw [if_neg (fun z => c1 z.1)]
      refine ⟨I, h, FrT.rf, fun v => ?_⟩
      have hk' : ¬ i32 t.1 = i32 2 := by rw [i_eq (by omega) (by omega)]; exact c1
      repeat (first | (with_reducible apply bd_eq; (focus (simp (disch := first | assumption | omega | rfl) only [i_rem, i_pred, i_addn1, i_lit, i_n1, i_add, i_mul, i_sub, i_le, i_lt, i_eq, i_ne1, n1_ne, n1_lt, n1_le, i_lt1, i_le1, bd_s, nar_bi, nar_0, nar_1, if_pos, if_neg, ↓reduceIte, reduceCtorEq, eq_self, if_true, if_false, not_true_eq_false, not_false_eq_true, tp_k, tp_fI, tp_fL, tp_pI, tp_pL, tp_z0, tp_z1, tp_fR0, tp0_a, tp0_t, tp0_n, tp_fR1, tp1_a, tp1_t, tp1_n, s5_k, s5_fI, s5_fL, s5_pI, s5_pL, s5_z0, s5_z1, s5_fR1, s51_a, s51_t, s51_n, s5_fR2, s52_a, s52_t, s52_n, s5_fR3, s53_a, s53_t, s53_n, s5_fR5, s55_a, s55_t, s55_n, s5_fR7, s57_a, s57_t, s57_n, s5_fR8, s58_a, s58_t, s58_n, s5_fR10, s510_a, s510_t, s510_n, s5_fR11, s511_a, s511_t, s511_n, s5_fR12, s512_a, s512_t, s512_n, s5_fR13, s513_a, s513_t, s513_n, y, hk]; first | done | (with_reducible rfl; done))); try dsimp only) | (with_reducible apply it_p; (focus (first | assumption | (simp (disch := first | assumption | omega | rfl) only [i_rem, i_pred, i_addn1, i_lit, i_n1, i_add, i_mul, i_sub, i_le, i_lt, i_eq, i_ne1, n1_ne, n1_lt, n1_le, i_lt1, i_le1, bd_s, nar_bi, nar_0, nar_1, if_pos, if_neg, ↓reduceIte, reduceCtorEq, eq_self, if_true, if_false, not_true_eq_false, not_false_eq_true, tp_k, tp_fI, tp_fL, tp_pI, tp_pL, tp_z0, tp_z1, tp_fR0, tp0_a, tp0_t, tp0_n, tp_fR1, tp1_a, tp1_t, tp1_n, s5_k, s5_fI, s5_fL, s5_pI, s5_pL, s5_z0, s5_z1, s5_fR1, s51_a, s51_t, s51_n, s5_fR2, s52_a, s52_t, s52_n, s5_fR3, s53_a, s53_t, s53_n, s5_fR5, s55_a, s55_t, s55_n, s5_fR7, s57_a, s57_t, s57_n, s5_fR8, s58_a, s58_t, s58_n, s5_fR10, s510_a, s510_t, s510_n, s5_fR11, s511_a, s511_t, s511_n, s5_fR12, s512_a, s512_t, s512_n, s5_fR13, s513_a, s513_t, s513_n, y, hk]; first | done | omega)))) | (with_reducible apply it_n; (focus (first | assumption | (simp (disch := first | assumption | omega | rfl) only [i_rem, i_pred, i_addn1, i_lit, i_n1, i_add, i_mul, i_sub, i_le, i_lt, i_eq, i_ne1, n1_ne, n1_lt, n1_le, i_lt1, i_le1, bd_s, nar_bi, nar_0, nar_1, if_pos, if_neg, ↓reduceIte, reduceCtorEq, eq_self, if_true, if_false, not_true_eq_false, not_false_eq_true, tp_k, tp_fI, tp_fL, tp_pI, tp_pL, tp_z0, tp_z1, tp_fR0, tp0_a, tp0_t, tp0_n, tp_fR1, tp1_a, tp1_t, tp1_n, s5_k, s5_fI, s5_fL, s5_pI, s5_pL, s5_z0, s5_z1, s5_fR1, s51_a, s51_t, s51_n, s5_fR2, s52_a, s52_t, s52_n, s5_fR3, s53_a, s53_t, s53_n, s5_fR5, s55_a, s55_t, s55_n, s5_fR7, s57_a, s57_t, s57_n, s5_fR8, s58_a, s58_t, s58_n, s5_fR10, s510_a, s510_t, s510_n, s5_fR11, s511_a, s511_t, s511_n, s5_fR12, s512_a, s512_t, s512_n, s5_fR13, s513_a, s513_t, s513_n, y, hk]; first | done | omega)))))
      all_goals rfl
theorem c_readLaw (hN : 1200 < N) (hO : hOk H) (hn : nOk H W) (hs : ShR H W c I L) (h : CqR n T m (.inr t) I L) : ∃ J K, fX8_readLaw N 15 1 (mk I L r) = some ((), mk J K r) ∧ CqR n T m (lwO n T m H W t) J K ∧ (isR (lwO n T m H W t) = true → ShR (lwH n T m H W t) (lwW n T m H W t) c J K) ∧ FrW I J L K := by
  have o0 := hO.1; have o1 := hO.2.1; have o2 := hO.2.2.1; have o3 := hO.2.2.2.1; have o4 := hO.2.2.2.2.1; have o5 := hO.2.2.2.2.2.1
  have q0 : I 15 9 = i32 (H 2) := hs.1.1.2.2.1
  unfold lwO
  by_cases c0 : H 2 < 6
  · rw [if_pos c0]
    obtain ⟨J1, K1, e1, g1, f1⟩ := c_adv (N := N) (r := r) hN h
    obtain ⟨J2, K2, e2, g2, f2⟩ := c_newName (N := N) (r := r) hN hO hn (ShR_t hs f1) g1
    obtain ⟨J3, g3, f3, e3⟩ := c_law56 (N := N) (r := r) hN hO (ShR_t hs (f1.tr f2)) g2
    obtain ⟨J4, K4, e4, g4, f4⟩ := c_takeNum (N := N) (r := r) (a := 10) (b := 999) hN g3 (by omega) (by omega)
    have f := f1.tr (f2.tr (f3.tr f4))
    have hs4 := ShR_t hs f
    obtain ⟨y1, y2⟩ := fault_0 g4
    unfold lwH lwW
    generalize ho : oN n T m 10 999 (ldO H (nmO n T m H W (nt n T m t))) = oo at g4 y1 y2
    have start : ∀ X, fX8_readLaw_J56 N 15 1 (K1 1 8) (mk J3 K2 r) = X → fX8_readLaw N 15 1 (mk I L r) = X := by
      intro X hX
      unfold fX8_readLaw
      have kc : i32 (H 2) < i32 6 := by rw [i_lt (by omega) (by omega)]; omega
      apply bd_eq (s5_fI (k := 9))
      apply it_p (by rw [q0]; exact kc)
      apply it_p tp_k
      apply bd_eq e1
      dsimp only
      apply it_p s5_k
      apply bd_eq e2
      dsimp only
      exact (e3 (K1 1 8)).trans hX
    cases hR : isR oo with
    | false =>
      have y3 := y2 hR
      refine ⟨J4, K4, start _ ?_, g4, fun z => (by cases z), f.w⟩
      unfold fX8_readLaw_J56
      repeat (first | (apply bd_eq; (focus (simp (disch := first | assumption | omega | rfl) only [i_rem, i_pred, i_addn1, i_lit, i_n1, i_add, i_mul, i_sub, i_le, i_lt, i_eq, i_ne1, n1_ne, n1_lt, n1_le, i_lt1, i_le1, bd_s, nar_bi, nar_0, nar_1, if_pos, if_neg, ↓reduceIte, reduceCtorEq, eq_self, if_true, if_false, not_true_eq_false, not_false_eq_true, tp_k, tp_fI, tp_fL, tp_pI, tp_pL, tp_z0, tp_z1, tp_fR0, tp0_a, tp0_t, tp0_n, tp_fR1, tp1_a, tp1_t, tp1_n, s5_k, s5_fI, s5_fL, s5_pI, s5_pL, s5_z0, s5_z1, s5_fR1, s51_a, s51_t, s51_n, s5_fR2, s52_a, s52_t, s52_n, s5_fR3, s53_a, s53_t, s53_n, s5_fR5, s55_a, s55_t, s55_n, s5_fR7, s57_a, s57_t, s57_n, s5_fR8, s58_a, s58_t, s58_n, s5_fR10, s510_a, s510_t, s510_n, s5_fR11, s511_a, s511_t, s511_n, s5_fR12, s512_a, s512_t, s512_n, s5_fR13, s513_a, s513_t, s513_n, e4]; first | done | (with_reducible rfl; done))); try dsimp only) | (apply it_p; (focus (first | assumption | (simp (disch := first | assumption | omega | rfl) only [i_rem, i_pred, i_addn1, i_lit, i_n1, i_add, i_mul, i_sub, i_le, i_lt, i_eq, i_ne1, n1_ne, n1_lt, n1_le, i_lt1, i_le1, bd_s, nar_bi, nar_0, nar_1, if_pos, if_neg, ↓reduceIte, reduceCtorEq, eq_self, if_true, if_false, not_true_eq_false, not_false_eq_true, tp_k, tp_fI, tp_fL, tp_pI, tp_pL, tp_z0, tp_z1, tp_fR0, tp0_a, tp0_t, tp0_n, tp_fR1, tp1_a, tp1_t, tp1_n, s5_k, s5_fI, s5_fL, s5_pI, s5_pL, s5_z0, s5_z1, s5_fR1, s51_a, s51_t, s51_n, s5_fR2, s52_a, s52_t, s52_n, s5_fR3, s53_a, s53_t, s53_n, s5_fR5, s55_a, s55_t, s55_n, s5_fR7, s57_a, s57_t, s57_n, s5_fR8, s58_a, s58_t, s58_n, s5_fR10, s510_a, s510_t, s510_n, s5_fR11, s511_a, s511_t, s511_n, s5_fR12, s512_a, s512_t, s512_n, s5_fR13, s513_a, s513_t, s513_n, e4]; first | done | omega)))) | (apply it_n; (focus (first | assumption | (simp (disch := first | assumption | omega | rfl) only [i_rem, i_pred, i_addn1, i_lit, i_n1, i_add, i_mul, i_sub, i_le, i_lt, i_eq, i_ne1, n1_ne, n1_lt, n1_le, i_lt1, i_le1, bd_s, nar_bi, nar_0, nar_1, if_pos, if_neg, ↓reduceIte, reduceCtorEq, eq_self, if_true, if_false, not_true_eq_false, not_false_eq_true, tp_k, tp_fI, tp_fL, tp_pI, tp_pL, tp_z0, tp_z1, tp_fR0, tp0_a, tp0_t, tp0_n, tp_fR1, tp1_a, tp1_t, tp1_n, s5_k, s5_fI, s5_fL, s5_pI, s5_pL, s5_z0, s5_z1, s5_fR1, s51_a, s51_t, s51_n, s5_fR2, s52_a, s52_t, s52_n, s5_fR3, s53_a, s53_t, s53_n, s5_fR5, s55_a, s55_t, s55_n, s5_fR7, s57_a, s57_t, s57_n, s5_fR8, s58_a, s58_t, s58_n, s5_fR10, s510_a, s510_t, s510_n, s5_fR11, s511_a, s511_t, s511_n, s5_fR12, s512_a, s512_t, s512_n, s5_fR13, s513_a, s513_t, s513_n, e4]; first | done | omega)))))
      all_goals rfl
    | true =>
      have y3 := y1 hR
      rw [← ho] at hR
      have zz := oN_R hR
      have hnm := (nmO_R (ldO_R zz.1).1).1
      have h8 : K1 1 8 = i64 (cB 32 (nt n T m t).2.2.2.1) := g1.2.1.2.2.2.2.1 (of_decide_eq_true hnm).1
      rw [h8] at start
      generalize hva : vN 10 999 (ldO H (nmO n T m H W (nt n T m t))) = va at e4 zz
      obtain ⟨⟨⟨r0, r6, r9, r4, r14⟩, s1, s2, s3, s4, s5, s6, s7⟩, ⟨n1', n2', n3'⟩, hc⟩ := hs4
      obtain ⟨J5, e5, k1, k2, k3, k4, k5⟩ := c_setSigns (N := N) (I := J4) (L := upL K4 22 (H 2) (i64 (cB 32 (nt n T m t).2.2.2.1))) (r := r) hN c0 zz.2
      have el : lg (u1 (u1 H 2 (H 2 + 1)) (29 + H 2) va) (H 2) = if 100 ≤ va then 3 else 2 := by unfold lg; rw [u1_eq]
      refine ⟨up J5 15 9 (i32 (H 2 + 1)), upL K4 22 (H 2) (i64 (cB 32 (nt n T m t).2.2.2.1)), start _ ?_, ?_, fun _ => ⟨⟨⟨?_, ?_, ?_, ?_, ?_⟩, ?_, ?_, ?_, ?_, ?_, ?_, ?_⟩, ⟨?_, ?_, ?_⟩, ?_⟩, ?_⟩
      · have q9 : J5 15 9 = i32 (H 2) := by rw [k5 15 (by omega) (by omega) (by omega)]; exact r9
        unfold fX8_readLaw_J56
        repeat (first | (apply bd_eq; (focus (simp (disch := first | assumption | omega | rfl) only [i_rem, i_pred, i_addn1, i_lit, i_n1, i_add, i_mul, i_sub, i_le, i_lt, i_eq, i_ne1, n1_ne, n1_lt, n1_le, i_lt1, i_le1, bd_s, nar_bi, nar_0, nar_1, if_pos, if_neg, ↓reduceIte, reduceCtorEq, eq_self, if_true, if_false, not_true_eq_false, not_false_eq_true, tp_k, tp_fI, tp_fL, tp_pI, tp_pL, tp_z0, tp_z1, tp_fR0, tp0_a, tp0_t, tp0_n, tp_fR1, tp1_a, tp1_t, tp1_n, s5_k, s5_fI, s5_fL, s5_pI, s5_pL, s5_z0, s5_z1, s5_fR1, s51_a, s51_t, s51_n, s5_fR2, s52_a, s52_t, s52_n, s5_fR3, s53_a, s53_t, s53_n, s5_fR5, s55_a, s55_t, s55_n, s5_fR7, s57_a, s57_t, s57_n, s5_fR8, s58_a, s58_t, s58_n, s5_fR10, s510_a, s510_t, s510_n, s5_fR11, s511_a, s511_t, s511_n, s5_fR12, s512_a, s512_t, s512_n, s5_fR13, s513_a, s513_t, s513_n, e4, r9, e5, q9]; first | done | (with_reducible rfl; done))); try dsimp only) | (apply it_p; (focus (first | assumption | (simp (disch := first | assumption | omega | rfl) only [i_rem, i_pred, i_addn1, i_lit, i_n1, i_add, i_mul, i_sub, i_le, i_lt, i_eq, i_ne1, n1_ne, n1_lt, n1_le, i_lt1, i_le1, bd_s, nar_bi, nar_0, nar_1, if_pos, if_neg, ↓reduceIte, reduceCtorEq, eq_self, if_true, if_false, not_true_eq_false, not_false_eq_true, tp_k, tp_fI, tp_fL, tp_pI, tp_pL, tp_z0, tp_z1, tp_fR0, tp0_a, tp0_t, tp0_n, tp_fR1, tp1_a, tp1_t, tp1_n, s5_k, s5_fI, s5_fL, s5_pI, s5_pL, s5_z0, s5_z1, s5_fR1, s51_a, s51_t, s51_n, s5_fR2, s52_a, s52_t, s52_n, s5_fR3, s53_a, s53_t, s53_n, s5_fR5, s55_a, s55_t, s55_n, s5_fR7, s57_a, s57_t, s57_n, s5_fR8, s58_a, s58_t, s58_n, s5_fR10, s510_a, s510_t, s510_n, s5_fR11, s511_a, s511_t, s511_n, s5_fR12, s512_a, s512_t, s512_n, s5_fR13, s513_a, s513_t, s513_n, e4, r9, e5, q9]; first | done | omega)))) | (apply it_n; (focus (first | assumption | (simp (disch := first | assumption | omega | rfl) only [i_rem, i_pred, i_addn1, i_lit, i_n1, i_add, i_mul, i_sub, i_le, i_lt, i_eq, i_ne1, n1_ne, n1_lt, n1_le, i_lt1, i_le1, bd_s, nar_bi, nar_0, nar_1, if_pos, if_neg, ↓reduceIte, reduceCtorEq, eq_self, if_true, if_false, not_true_eq_false, not_false_eq_true, tp_k, tp_fI, tp_fL, tp_pI, tp_pL, tp_z0, tp_z1, tp_fR0, tp0_a, tp0_t, tp0_n, tp_fR1, tp1_a, tp1_t, tp1_n, s5_k, s5_fI, s5_fL, s5_pI, s5_pL, s5_z0, s5_z1, s5_fR1, s51_a, s51_t, s51_n, s5_fR2, s52_a, s52_t, s52_n, s5_fR3, s53_a, s53_t, s53_n, s5_fR5, s55_a, s55_t, s55_n, s5_fR7, s57_a, s57_t, s57_n, s5_fR8, s58_a, s58_t, s58_n, s5_fR10, s510_a, s510_t, s510_n, s5_fR11, s511_a, s511_t, s511_n, s5_fR12, s512_a, s512_t, s512_n, s5_fR13, s513_a, s513_t, s513_n, e4, r9, e5, q9]; first | done | omega)))))
        all_goals rfl
      · refine CqR_s g4 ?_ ?_ (upL_row (by omega)) (upL_row (by omega))
        · rw [up_row (by omega)]; exact k5 1 (by omega) (by omega) (by omega)
        · rw [up_row (by omega)]; exact k5 2 (by omega) (by omega) (by omega)
      · rw [up_ofk (by omega), k5 15 (by omega) (by omega) (by omega), u1_ne (by omega), u1_ne (by omega)]; exact r0
      · rw [up_ofk (by omega), k5 15 (by omega) (by omega) (by omega), u1_ne (by omega), u1_ne (by omega)]; exact r6
      · rw [up_self, u1_ne (by omega), u1_eq]
      · rw [up_ofk (by omega), k5 15 (by omega) (by omega) (by omega), u1_ne (by omega), u1_ne (by omega)]; exact r4
      · rw [up_ofk (by omega), k5 15 (by omega) (by omega) (by omega), u1_ne (by omega), u1_ne (by omega)]; exact r14
      · intro b hb
        rw [u1_ne (by omega), u1_ne (by omega)] at hb
        rw [up_row (by omega), k5 _ (by omega) (by omega) (by omega), u1_ne (by omega), u1_ne (by omega)]; exact s1 b hb
      · intro b hb
        rw [u1_ne (by omega), u1_ne (by omega)] at hb
        rw [up_row (by omega), k5 _ (by omega) (by omega) (by omega), u1_ne (by omega), u1_ne (by omega)]; exact s2 b hb
      · intro b hb
        rw [u1_ne (by omega), u1_ne (by omega)] at hb
        rw [up_row (by omega), k5 _ (by omega) (by omega) (by omega), u1_ne (by omega), u1_ne (by omega)]; exact s3 b hb
      · intro b hb
        rw [u1_ne (by omega), u1_ne (by omega)] at hb
        rw [up_row (by omega), k5 _ (by omega) (by omega) (by omega), u1_ne (by omega), u1_ne (by omega)]; exact s4 b hb
      · intro b hb
        rw [u1_ne (by omega), u1_eq] at hb
        rw [up_row (by omega)]
        show J5 23 b = _
        rw [k1]
        by_cases hbe : b = H 2
        · rw [hbe, u1_eq, u1_eq]
        · rw [u1_ne hbe, u1_ne (by omega), u1_ne (by omega)]; exact s5 b (by omega)
      · intro b hb
        rw [u1_ne (by omega), u1_eq] at hb
        rw [up_row (by omega)]
        show J5 24 b = _
        rw [k2]
        by_cases hbe : b = H 2
        · rw [hbe, u1_eq, el]
        · rw [u1_ne hbe, lg_c (H := H) (by rw [u1_ne (by omega), u1_ne (by omega)])]; exact s6 b (by omega)
      · intro b hb k hk
        rw [u1_ne (by omega), u1_eq] at hb
        rw [up_row (by omega)]
        show J5 25 (b * 3 + k) = _
        by_cases hbe : b = H 2
        · subst hbe
          rw [el] at hk
          rw [k3 k hk]
          unfold sg
          rw [el, u1_eq]
        · have l3 := lg_3 (H := H) (l := b)
          rw [lg_c (H := H) (by rw [u1_ne (by omega), u1_ne (by omega)])] at hk
          rw [k4 _ (by omega), sg_c (H := H) (by rw [u1_ne (by omega), u1_ne (by omega)])]; exact s7 b (by omega) k hk
      · intro b hb
        rw [u1_ne (by omega), u1_ne (by omega)] at hb
        rw [upL_row (by omega), u1_ne (by omega)]; exact n1' b hb
      · intro b hb
        rw [u1_ne (by omega), u1_ne (by omega)] at hb
        rw [upL_row (by omega), u1_ne (by omega)]; exact n2' b hb
      · intro b hb
        rw [u1_ne (by omega), u1_eq] at hb
        rw [upL_at]
        by_cases hbe : b = H 2
        · rw [if_pos hbe, hbe, u1_eq]
        · rw [if_neg hbe, u1_ne (by omega)]; exact n3' b (by omega)
      · rw [up_ofk (by omega), k5 15 (by omega) (by omega) (by omega)]; exact hc
      · refine f.w.tr ⟨fun z z1 z2 => by rw [up_row (by omega)]; exact k5 z (by omega) (by omega) (by omega), fun k hk => by rw [up_row (by omega), k5 1 (by omega) (by omega) (by omega)], fun z z1 z2 => upL_row (by omega), ?_⟩
        rw [up_ofk (by omega), k5 15 (by omega) (by omega) (by omega)]
  · rw [if_neg c0]
    obtain ⟨J, e3, g1, g2⟩ := c_failR (N := N) (r := r) (k := 4) h (by omega)
    refine ⟨J, L, ?_, g1, fun z => (by cases z), g2.w⟩
    unfold fX8_readLaw
    repeat (first | (apply bd_eq; (focus (simp (disch := first | assumption | omega | rfl) only [i_rem, i_pred, i_addn1, i_lit, i_n1, i_add, i_mul, i_sub, i_le, i_lt, i_eq, i_ne1, n1_ne, n1_lt, n1_le, i_lt1, i_le1, bd_s, nar_bi, nar_0, nar_1, if_pos, if_neg, ↓reduceIte, reduceCtorEq, eq_self, if_true, if_false, not_true_eq_false, not_false_eq_true, tp_k, tp_fI, tp_fL, tp_pI, tp_pL, tp_z0, tp_z1, tp_fR0, tp0_a, tp0_t, tp0_n, tp_fR1, tp1_a, tp1_t, tp1_n, s5_k, s5_fI, s5_fL, s5_pI, s5_pL, s5_z0, s5_z1, s5_fR1, s51_a, s51_t, s51_n, s5_fR2, s52_a, s52_t, s52_n, s5_fR3, s53_a, s53_t, s53_n, s5_fR5, s55_a, s55_t, s55_n, s5_fR7, s57_a, s57_t, s57_n, s5_fR8, s58_a, s58_t, s58_n, s5_fR10, s510_a, s510_t, s510_n, s5_fR11, s511_a, s511_t, s511_n, s5_fR12, s512_a, s512_t, s512_n, s5_fR13, s513_a, s513_t, s513_n, q0, e3]; first | done | (with_reducible rfl; done))); try dsimp only) | (apply it_p; (focus (first | assumption | (simp (disch := first | assumption | omega | rfl) only [i_rem, i_pred, i_addn1, i_lit, i_n1, i_add, i_mul, i_sub, i_le, i_lt, i_eq, i_ne1, n1_ne, n1_lt, n1_le, i_lt1, i_le1, bd_s, nar_bi, nar_0, nar_1, if_pos, if_neg, ↓reduceIte, reduceCtorEq, eq_self, if_true, if_false, not_true_eq_false, not_false_eq_true, tp_k, tp_fI, tp_fL, tp_pI, tp_pL, tp_z0, tp_z1, tp_fR0, tp0_a, tp0_t, tp0_n, tp_fR1, tp1_a, tp1_t, tp1_n, s5_k, s5_fI, s5_fL, s5_pI, s5_pL, s5_z0, s5_z1, s5_fR1, s51_a, s51_t, s51_n, s5_fR2, s52_a, s52_t, s52_n, s5_fR3, s53_a, s53_t, s53_n, s5_fR5, s55_a, s55_t, s55_n, s5_fR7, s57_a, s57_t, s57_n, s5_fR8, s58_a, s58_t, s58_n, s5_fR10, s510_a, s510_t, s510_n, s5_fR11, s511_a, s511_t, s511_n, s5_fR12, s512_a, s512_t, s512_n, s5_fR13, s513_a, s513_t, s513_n, q0, e3]; first | done | omega)))) | (apply it_n; (focus (first | assumption | (simp (disch := first | assumption | omega | rfl) only [i_rem, i_pred, i_addn1, i_lit, i_n1, i_add, i_mul, i_sub, i_le, i_lt, i_eq, i_ne1, n1_ne, n1_lt, n1_le, i_lt1, i_le1, bd_s, nar_bi, nar_0, nar_1, if_pos, if_neg, ↓reduceIte, reduceCtorEq, eq_self, if_true, if_false, not_true_eq_false, not_false_eq_true, tp_k, tp_fI, tp_fL, tp_pI, tp_pL, tp_z0, tp_z1, tp_fR0, tp0_a, tp0_t, tp0_n, tp_fR1, tp1_a, tp1_t, tp1_n, s5_k, s5_fI, s5_fL, s5_pI, s5_pL, s5_z0, s5_z1, s5_fR1, s51_a, s51_t, s51_n, s5_fR2, s52_a, s52_t, s52_n, s5_fR3, s53_a, s53_t, s53_n, s5_fR5, s55_a, s55_t, s55_n, s5_fR7, s57_a, s57_t, s57_n, s5_fR8, s58_a, s58_t, s58_n, s5_fR10, s510_a, s510_t, s510_n, s5_fR11, s511_a, s511_t, s511_n, s5_fR12, s512_a, s512_t, s512_n, s5_fR13, s513_a, s513_t, s513_n, q0, e3]; first | done | omega)))))
    all_goals rfl
end
