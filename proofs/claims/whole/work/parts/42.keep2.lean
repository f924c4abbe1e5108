/-! the class -/
def t1 (r : Bool) : Nat := if r then 126 else 125
def t2 (r : Bool) : Nat := if r then 125 else 126
def TB (q : Nat) (X : Nat → Nat → Nat) (J : Nat → Nat → Int32) : Prop := ∀ a g, a < 30 → g < 10 → J q (a * 10 + g) = i32 (X a g)
def mG (H : Nat → Nat) (S : Nat → Bool) (m : Nat) : Nat := fo (fun b s => if S b then (if s < H (5 + b) then H (5 + b) else s) else s) 0 m
def Sw (H : Nat → Nat) (l : Nat) : Nat → Bool := fun b => decide (lg H l ≤ H (11 + b))
section
variable {H : Nat → Nat} {B : Nat → Int32} {I : Nat → Nat → Int32} {L : Nat → Nat → Int64} {r : Bool} {N h best : Nat}
theorem t12 : t1 r ≠ t2 r := by cases r <;> decide
theorem t1_r : t1 r = 125 ∨ t1 r = 126 := by cases r <;> simp [t1]
theorem t2_r : t2 r = 125 ∨ t2 r = 126 := by cases r <;> simp [t2]
theorem t1_n : t1 (!r) = t2 r := by cases r <;> rfl
theorem t2_n : t2 (!r) = t1 r := by cases r <;> rfl
theorem kp_f1 : fR (mk I L r) 3 124 1 = some (t1 r) := mk_fR kp_K (by cases r <;> decide +kernel)
theorem kp_f2 : fR (mk I L r) 3 124 2 = some (t2 r) := mk_fR kp_K (by cases r <;> decide +kernel)
theorem t1_K : K0 (t1 r) = 20 := by cases r <;> decide +kernel
theorem t2_K : K0 (t2 r) = 20 := by cases r <;> decide +kernel
theorem t1_N : N0 (t1 r) = 300 := by cases r <;> decide +kernel
theorem t2_N : N0 (t2 r) = 300 := by cases r <;> decide +kernel
theorem kp_s1 : pR (mk I L r) 3 124 1 (t2 r) = some (sR (mk I L r) 124 1 (t2 r)) := by rw [pR, if_pos (show mK (mk I L r) 124 = 3 + 1 from kp_K)]
theorem kp_s2 : pR (sR (mk I L r) 124 1 (t2 r)) 3 124 2 (t1 r) = some (mk I L (!r)) := by
  rw [pR, if_pos (show mK (sR (mk I L r) 124 1 (t2 r)) 124 = 3 + 1 from kp_K)]
  have e : va_up (va_up (R0 r) 124 (va_up (R0 r 124) 1 (t2 r + 1))) 124 (va_up (va_up (R0 r) 124 (va_up (R0 r 124) 1 (t2 r + 1)) 124) 2 (t1 r + 1)) = R0 (!r) := by
    funext q k
    by_cases hq : q = 124
    · subst hq
      by_cases h1 : k = 1
      · subst h1; cases r <;> simp [va_up, R0, t1, t2]
      · by_cases h2 : k = 2
        · subst h2; cases r <;> simp [va_up, R0, t1, t2]
        · cases r <;> simp [va_up, R0, h1, h2]
    · simp [va_up, R0, hq]
  show some (I, L, va_up (va_up (R0 r) 124 (va_up (R0 r 124) 1 (t2 r + 1))) 124 (va_up (va_up (R0 r) 124 (va_up (R0 r 124) 1 (t2 r + 1)) 124) 2 (t1 r + 1)), K0, N0, 0) = _
  rw [e]; rfl
theorem c_setFewer {q a g c : Nat} (hK : K0 q = 20) (hn : N0 q = 300) {X : Nat → Nat → Nat} (hX : TB q X I) (hb : ∀ a g, X a g ≤ 1000) (ha : a < 30) (hg : g < 10) (hc : c ≤ 1000) : ∃ J, fX3_setFewer N q (i32 a) (i32 g) (i32 c) (mk I L r) = some ((), mk J L r) ∧ TB q (setX X a g c) J ∧ ∀ z, z ≠ q → J z = I z := by
  have e := hX a g ha hg
  have x1 := hb a g
  have n1' : nA (mk I L r) q = some (i32 300) := mk_nA (by rw [hK]; decide) hn
  have a1 : aI (mk I L r) q (i32 (a * 10 + g)) = some (I q (a * 10 + g)) := mk_aI hK hn (by omega) (by omega)
  have t1 : tI (mk I L r) q (i32 (a * 10 + g)) (i32 c) = some (mk (up I q (a * 10 + g) (i32 c)) L r) := mk_tI hK hn (by omega) (by omega)
  by_cases hlt : c < X a g
  · refine ⟨up I q (a * 10 + g) (i32 c), ?_, fun a' g' ha' hg' => ?_, fun z hz => up_row hz⟩
    · unfold fX3_setFewer
      simp (disch := first | assumption | omega | rfl) only [i_rem, i_pred, i_addn1, i_lit, i_n1, i_add, i_mul, i_sub, i_le, i_lt, i_eq, i_ne1, n1_ne, n1_lt, n1_le, i_lt1, i_le1, bd_s, nar_bi, nar_0, nar_1, if_pos, if_neg, ↓reduceIte, reduceCtorEq, eq_self, if_true, if_false, not_true_eq_false, not_false_eq_true, n1', a1, t1, e]
    · rw [up_at, setX]
      by_cases hag : a' * 10 + g' = a * 10 + g
      · rw [if_pos hag, if_pos ⟨by omega, by omega, hlt⟩]
      · rw [if_neg hag, if_neg (by rintro ⟨rfl, rfl, _⟩; exact hag rfl)]; exact hX a' g' ha' hg'
  · refine ⟨I, ?_, fun a' g' ha' hg' => ?_, fun z hz => rfl⟩
    · unfold fX3_setFewer
      simp (disch := first | assumption | omega | rfl) only [i_rem, i_pred, i_addn1, i_lit, i_n1, i_add, i_mul, i_sub, i_le, i_lt, i_eq, i_ne1, n1_ne, n1_lt, n1_le, i_lt1, i_le1, bd_s, nar_bi, nar_0, nar_1, if_pos, if_neg, ↓reduceIte, reduceCtorEq, eq_self, if_true, if_false, not_true_eq_false, not_false_eq_true, n1', a1, e]
    · rw [setX, if_neg (fun z => hlt z.2.2)]; exact hX a' g' ha' hg'
theorem psX_1000 {i a g c : Nat} {Y : Nat → Nat → Nat} (hb : ∀ a g, Y a g ≤ 1000) : ∀ a' g', psX H h i Y a g c a' g' ≤ 1000 := fun a' g' => psX_le.mpr (Or.inl (hb a' g'))
theorem c_pass (hO : hOk H) (hs : RS 4 H I) {i a g c : Nat} {Y : Nat → Nat → Nat} (hY : TB (t2 r) Y I) (hb : ∀ a g, Y a g ≤ 1000) (ha : a < H 4) (hg : g < 10) (hc : c ≤ 1000) : ∃ J, fX3_passHourAt N 124 (i32 a) (i32 g) (tdA H (h + i)) (i32 c) (mk I L r) = some ((), mk J L r) ∧ TB (t2 r) (psX H h i Y a g c) J ∧ ∀ z, z ≠ t2 r → J z = I z := by
  have o0 := hO.1; have o1 := hO.2.1; have o2 := hO.2.2.1; have o3 := hO.2.2.2.1; have o4 := hO.2.2.2.2.1; have o5 := hO.2.2.2.2.2.1
  by_cases hw : 0 < g ∧ wz H h g i = false
  · have e : nxK H h i a g = some (0, g) := by rw [nxK, if_pos hw]
    have hT : tdA H (h + i) < i32 g := by
      have := of_decide_eq_false hw.2
      exact Decidable.not_not.mp this
    have hT2 : ¬ i32 g ≤ tdA H (h + i) := fun z => (i_nlt.mp z) hT
    have hg0 : ¬ i32 g ≤ i32 0 := by rw [i_le (by omega) (by omega)]; omega
    obtain ⟨J, e1, g1, g2⟩ := c_setFewer (N := N) (L := L) (r := r) (a := 0) (g := g) t2_K t2_N hY hb (by omega) hg hc
    refine ⟨J, ?_, ?_, g2⟩
    · unfold fX3_passHourAt
      repeat (first | (apply bd_eq; (focus (simp (disch := first | assumption | omega | rfl) only [kp_k, kp_fI, kp_fL, kp_pI, kp_pL, kp_z0, kp_z1, kp_fR0, s4_k, s4_fI, s4_fL, s4_pI, s4_pL, s4_z0, s4_z1, s4_fR1, s41_a, s41_t, s41_n, s4_fR2, s42_a, s42_t, s42_n, s4_fR3, s43_a, s43_t, s43_n, s4_fR5, s45_a, s45_t, s45_n, s4_fR7, s47_a, s47_t, s47_n, s4_fR8, s48_a, s48_t, s48_n, s4_fR10, s410_a, s410_t, s410_n, s4_fR11, s411_a, s411_t, s411_n, s4_fR12, s412_a, s412_t, s412_n, s4_fR13, s413_a, s413_t, s413_n, i_lit, kp_f2, e1]; first | done | (with_reducible rfl; done))); try dsimp only) | (apply it_p; (focus (first | assumption | (simp (disch := first | assumption | omega | rfl) only [kp_k, kp_fI, kp_fL, kp_pI, kp_pL, kp_z0, kp_z1, kp_fR0, s4_k, s4_fI, s4_fL, s4_pI, s4_pL, s4_z0, s4_z1, s4_fR1, s41_a, s41_t, s41_n, s4_fR2, s42_a, s42_t, s42_n, s4_fR3, s43_a, s43_t, s43_n, s4_fR5, s45_a, s45_t, s45_n, s4_fR7, s47_a, s47_t, s47_n, s4_fR8, s48_a, s48_t, s48_n, s4_fR10, s410_a, s410_t, s410_n, s4_fR11, s411_a, s411_t, s411_n, s4_fR12, s412_a, s412_t, s412_n, s4_fR13, s413_a, s413_t, s413_n, i_lit, kp_f2, e1]; first | done | omega)))) | (apply it_n; (focus (first | assumption | (simp (disch := first | assumption | omega | rfl) only [kp_k, kp_fI, kp_fL, kp_pI, kp_pL, kp_z0, kp_z1, kp_fR0, s4_k, s4_fI, s4_fL, s4_pI, s4_pL, s4_z0, s4_z1, s4_fR1, s41_a, s41_t, s41_n, s4_fR2, s42_a, s42_t, s42_n, s4_fR3, s43_a, s43_t, s43_n, s4_fR5, s45_a, s45_t, s45_n, s4_fR7, s47_a, s47_t, s47_n, s4_fR8, s48_a, s48_t, s48_n, s4_fR10, s410_a, s410_t, s410_n, s4_fR11, s411_a, s411_t, s411_n, s4_fR12, s412_a, s412_t, s412_n, s4_fR13, s413_a, s413_t, s413_n, i_lit, kp_f2, e1]; first | done | omega)))))
      all_goals rfl
    · unfold psX; rw [e]; exact g1
  · have hj : fX3_passHourAt N 124 (i32 a) (i32 g) (tdA H (h + i)) (i32 c) (mk I L r) = fX3_passHourAt_J23 N 124 (i32 a) (i32 c) (mk I L r) := by
      unfold fX3_passHourAt
      by_cases hg0 : g = 0
      · subst hg0
        rw [if_pos (by decide)]
      · have hg1 : ¬ i32 g ≤ 0 := by
          show ¬ i32 g ≤ i32 0
          rw [i_le (by omega) (by omega)]; omega
        have hT : i32 g ≤ tdA H (h + i) := by
          rw [i_nlt]
          intro z
          exact hw ⟨by omega, decide_eq_false (fun q => q z)⟩
        rw [if_neg hg1, if_pos hT]
    rw [hj]
    unfold fX3_passHourAt_J23
    by_cases hl : a + 1 < H 4
    · have e : nxK H h i a g = some (a + 1, 0) := by rw [nxK, if_neg hw, if_pos hl]
      obtain ⟨J, e1, g1, g2⟩ := c_setFewer (N := N) (L := L) (r := r) (a := a + 1) (g := 0) t2_K t2_N hY hb (by omega) (by omega) hc
      refine ⟨J, ?_, ?_, g2⟩
      · simp (disch := first | assumption | omega | rfl) only [i_rem, i_pred, i_addn1, i_lit, i_n1, i_add, i_mul, i_sub, i_le, i_lt, i_eq, i_ne1, n1_ne, n1_lt, n1_le, i_lt1, i_le1, bd_s, nar_bi, nar_0, nar_1, if_pos, if_neg, ↓reduceIte, reduceCtorEq, eq_self, if_true, if_false, not_true_eq_false, not_false_eq_true, kp_k, kp_fI, kp_fL, kp_pI, kp_pL, kp_z0, kp_z1, kp_fR0, s4_k, s4_fI, s4_fL, s4_pI, s4_pL, s4_z0, s4_z1, s4_fR1, s41_a, s41_t, s41_n, s4_fR2, s42_a, s42_t, s42_n, s4_fR3, s43_a, s43_t, s43_n, s4_fR5, s45_a, s45_t, s45_n, s4_fR7, s47_a, s47_t, s47_n, s4_fR8, s48_a, s48_t, s48_n, s4_fR10, s410_a, s410_t, s410_n, s4_fR11, s411_a, s411_t, s411_n, s4_fR12, s412_a, s412_t, s412_n, s4_fR13, s413_a, s413_t, s413_n, s4_la hs, kp_f2, e1]
      · unfold psX; rw [e]; exact g1
    · have e : nxK H h i a g = none := by rw [nxK, if_neg hw, if_neg hl]
      refine ⟨I, ?_, ?_, fun _ _ => rfl⟩
      · simp (disch := first | assumption | omega | rfl) only [i_rem, i_pred, i_addn1, i_lit, i_n1, i_add, i_mul, i_sub, i_le, i_lt, i_eq, i_ne1, n1_ne, n1_lt, n1_le, i_lt1, i_le1, bd_s, nar_bi, nar_0, nar_1, if_pos, if_neg, ↓reduceIte, reduceCtorEq, eq_self, if_true, if_false, not_true_eq_false, not_false_eq_true, kp_k, kp_fI, kp_fL, kp_pI, kp_pL, kp_z0, kp_z1, kp_fR0, s4_k, s4_fI, s4_fL, s4_pI, s4_pL, s4_z0, s4_z1, s4_fR1, s41_a, s41_t, s41_n, s4_fR2, s42_a, s42_t, s42_n, s4_fR3, s43_a, s43_t, s43_n, s4_fR5, s45_a, s45_t, s45_n, s4_fR7, s47_a, s47_t, s47_n, s4_fR8, s48_a, s48_t, s48_n, s4_fR10, s410_a, s410_t, s410_n, s4_fR11, s411_a, s411_t, s411_n, s4_fR12, s412_a, s412_t, s412_n, s4_fR13, s413_a, s413_t, s413_n, s4_la hs]
      · unfold psX; rw [e]; exact hY
theorem gX_1000 {i a : Nat} {X Y : Nat → Nat → Nat} (hb : ∀ a g, Y a g ≤ 1000) (m : Nat) : ∀ a' g', gX H h best i X a Y m a' g' ≤ 1000 := fun a' g' => (gX_le m).mpr (Or.inl (hb a' g'))
theorem tX_1000 {i : Nat} {X Y : Nat → Nat → Nat} (hb : ∀ a g, Y a g ≤ 1000) (m : Nat) : ∀ a' g', tX H h best i X Y m a' g' ≤ 1000 := fun a' g' => (tX_le m).mpr (Or.inl (hb a' g'))
theorem c_go16 (hN : 1200 < N) (hO : hOk H) (hs : RS 4 H I) {i a : Nat} {X Y : Nat → Nat → Nat} (hXb : ∀ a g, X a g ≤ 1000) (hX : TB (t1 r) X I) (hY : TB (t2 r) Y I) (hb : ∀ a g, Y a g ≤ 1000) (ha : a < H 4) (hbe : best < 10) : ∃ J, fX3_goThrough_L16 N 124 (tdA H (h + i)) (i32 best) (i32 a) N (i32 0) (mk I L r) = some (mk J L r) ∧ TB (t2 r) (gX H h best i X a Y 10) J ∧ ∀ z, z ≠ t2 r → J z = I z := by
  have o0 := hO.1; have o1 := hO.2.1; have o2 := hO.2.2.1; have o3 := hO.2.2.2.1; have o4 := hO.2.2.2.2.1; have o5 := hO.2.2.2.2.2.1
  have tr := t2_r (r := r)
  obtain ⟨J, e, g1, g2⟩ := lp_st (F := fun n' v J => fX3_goThrough_L16 N 124 (tdA H (h + i)) (i32 best) (i32 a) n' v (mk J L r)) (m := 10) (fun g J => TB (t2 r) (gX H h best i X a Y g) J ∧ ∀ z, z ≠ t2 r → J z = I z) (fun J => mk J L r) (fun n' g J hg hJ => by
    obtain ⟨h1, h2⟩ := hJ
    have hsJ : RS 4 H J := RS_of (fun z z1 z2 => h2 z (by omega)) hs
    have ex : J (t1 r) (a * 10 + g) = i32 (X a g) := by rw [h2 _ t12]; exact hX a g (by omega) hg
    have ea : aI (mk J L r) (t1 r) (i32 (a * 10 + g)) = some (J (t1 r) (a * 10 + g)) := mk_aI t1_K t1_N (by omega) (by omega)
    have eg : gX H h best i X a Y (g + 1) = g1X H h best i X a g (gX H h best i X a Y g) := rfl
    have x1 := hXb a g
    by_cases c1 : 1000 ≤ X a g ∧ X a g < 2147483648
    · refine ⟨J, ?_, ?_, h2⟩
      · simp (disch := first | assumption | omega | rfl) only [i_rem, i_pred, i_addn1, i_lit, i_n1, i_add, i_mul, i_sub, i_le, i_lt, i_eq, i_ne1, n1_ne, n1_lt, n1_le, i_lt1, i_le1, bd_s, nar_bi, nar_0, nar_1, if_pos, if_neg, ↓reduceIte, reduceCtorEq, eq_self, if_true, if_false, not_true_eq_false, not_false_eq_true, kp_k, kp_fI, kp_fL, kp_pI, kp_pL, kp_z0, kp_z1, kp_fR0, fX3_goThrough_L16, kp_f1, ea, ex, c1.1, c1.2]
      · rw [eg]; unfold g1X; rw [if_pos c1.1]; exact h1
    · by_cases c0 : X a g < 1000
      · obtain ⟨J1, e1, k1, k2⟩ := c_pass (N := N) (L := L) (h := h) (i := i) hO hsJ h1 (gX_1000 hb g) ha hg (show X a g ≤ 1000 by omega)
        have hs1 : RS 4 H J1 := RS_of (fun z z1 z2 => k2 z (by omega)) hsJ
        by_cases c2 : best ≤ g
        · refine ⟨J1, ?_, ?_, fun z hz => (k2 z hz).trans (h2 z hz)⟩
          · simp (disch := first | assumption | omega | rfl) only [i_rem, i_pred, i_addn1, i_lit, i_n1, i_add, i_mul, i_sub, i_le, i_lt, i_eq, i_ne1, n1_ne, n1_lt, n1_le, i_lt1, i_le1, bd_s, nar_bi, nar_0, nar_1, if_pos, if_neg, ↓reduceIte, reduceCtorEq, eq_self, if_true, if_false, not_true_eq_false, not_false_eq_true, kp_k, kp_fI, kp_fL, kp_pI, kp_pL, kp_z0, kp_z1, kp_fR0, fX3_goThrough_L16, kp_f1, ea, ex, e1]
          · rw [eg]; unfold g1X; rw [if_neg (by omega), if_pos c2]; exact k1
        · obtain ⟨J2, e2, k3, k4⟩ := c_pass (N := N) (L := L) (h := h) (i := i) hO hs1 k1 (psX_1000 (gX_1000 hb g)) ha hbe (show X a g + 1 ≤ 1000 by omega)
          refine ⟨J2, ?_, ?_, fun z hz => (k4 z hz).trans ((k2 z hz).trans (h2 z hz))⟩
          · simp (disch := first | assumption | omega | rfl) only [i_rem, i_pred, i_addn1, i_lit, i_n1, i_add, i_mul, i_sub, i_le, i_lt, i_eq, i_ne1, n1_ne, n1_lt, n1_le, i_lt1, i_le1, bd_s, nar_bi, nar_0, nar_1, if_pos, if_neg, ↓reduceIte, reduceCtorEq, eq_self, if_true, if_false, not_true_eq_false, not_false_eq_true, kp_k, kp_fI, kp_fL, kp_pI, kp_pL, kp_z0, kp_z1, kp_fR0, fX3_goThrough_L16, kp_f1, ea, ex, e1, e2]
          · rw [eg]; unfold g1X; rw [if_neg (by omega), if_neg c2]; exact k3
      · exfalso
        omega) (fun n' J hJ => by
    simp (disch := first | assumption | omega | rfl) only [i_rem, i_pred, i_addn1, i_lit, i_n1, i_add, i_mul, i_sub, i_le, i_lt, i_eq, i_ne1, n1_ne, n1_lt, n1_le, i_lt1, i_le1, bd_s, nar_bi, nar_0, nar_1, if_pos, if_neg, ↓reduceIte, reduceCtorEq, eq_self, if_true, if_false, not_true_eq_false, not_false_eq_true, fX3_goThrough_L16]) (n := N) (by omega) (s := I) ⟨hY, fun _ _ => rfl⟩
  exact ⟨J, e, g1, g2⟩
theorem c_go (hN : 1200 < N) (hO : hOk H) (hs : RS 4 H I) {i : Nat} {X Y : Nat → Nat → Nat} (hX : TB (t1 r) X I) (hY : TB (t2 r) Y I) (hb : ∀ a g, Y a g ≤ 1000) (hXb : ∀ a g, X a g ≤ 1000) (hbe : best < 10) : ∃ J, fX3_goThrough N 124 (tdA H (h + i)) (i32 best) (mk I L r) = some ((), mk J L r) ∧ TB (t2 r) (tX H h best i X Y (H 4)) J ∧ ∀ z, z ≠ t2 r → J z = I z := by
  have o0 := hO.1; have o1 := hO.2.1; have o2 := hO.2.2.1; have o3 := hO.2.2.2.1; have o4 := hO.2.2.2.2.1; have o5 := hO.2.2.2.2.2.1
  have tr := t2_r (r := r)
  obtain ⟨J, e, g1, g2⟩ := lp_st (F := fun n' v J => fX3_goThrough_L2 N 124 (tdA H (h + i)) (i32 best) n' v (mk J L r)) (m := H 4) (fun a J => TB (t2 r) (tX H h best i X Y a) J ∧ ∀ z, z ≠ t2 r → J z = I z) (fun J => mk J L r) (fun n' a J ha hJ => by
    obtain ⟨h1, h2⟩ := hJ
    have hsJ : RS 4 H J := RS_of (fun z z1 z2 => h2 z (by omega)) hs
    have hXJ : TB (t1 r) X J := fun a g ha hg => by rw [h2 _ t12]; exact hX a g ha hg
    obtain ⟨J1, e1, k1, k2⟩ := c_go16 (N := N) (L := L) (h := h) (best := best) (i := i) hN hO hsJ hXb hXJ h1 (tX_1000 hb a) ha hbe
    refine ⟨J1, ?_, k1, fun z hz => (k2 z hz).trans (h2 z hz)⟩
    simp (disch := first | assumption | omega | rfl) only [i_rem, i_pred, i_addn1, i_lit, i_n1, i_add, i_mul, i_sub, i_le, i_lt, i_eq, i_ne1, n1_ne, n1_lt, n1_le, i_lt1, i_le1, bd_s, nar_bi, nar_0, nar_1, if_pos, if_neg, ↓reduceIte, reduceCtorEq, eq_self, if_true, if_false, not_true_eq_false, not_false_eq_true, kp_k, kp_fI, kp_fL, kp_pI, kp_pL, kp_z0, kp_z1, kp_fR0, s4_k, s4_fI, s4_fL, s4_pI, s4_pL, s4_z0, s4_z1, s4_fR1, s41_a, s41_t, s41_n, s4_fR2, s42_a, s42_t, s42_n, s4_fR3, s43_a, s43_t, s43_n, s4_fR5, s45_a, s45_t, s45_n, s4_fR7, s47_a, s47_t, s47_n, s4_fR8, s48_a, s48_t, s48_n, s4_fR10, s410_a, s410_t, s410_n, s4_fR11, s411_a, s411_t, s411_n, s4_fR12, s412_a, s412_t, s412_n, s4_fR13, s413_a, s413_t, s413_n, fX3_goThrough_L2, s4_la hsJ, e1]) (fun n' J hJ => by
    obtain ⟨h1, h2⟩ := hJ
    have hsJ : RS 4 H J := RS_of (fun z z1 z2 => h2 z (by omega)) hs
    simp (disch := first | assumption | omega | rfl) only [i_rem, i_pred, i_addn1, i_lit, i_n1, i_add, i_mul, i_sub, i_le, i_lt, i_eq, i_ne1, n1_ne, n1_lt, n1_le, i_lt1, i_le1, bd_s, nar_bi, nar_0, nar_1, if_pos, if_neg, ↓reduceIte, reduceCtorEq, eq_self, if_true, if_false, not_true_eq_false, not_false_eq_true, kp_k, kp_fI, kp_fL, kp_pI, kp_pL, kp_z0, kp_z1, kp_fR0, s4_k, s4_fI, s4_fL, s4_pI, s4_pL, s4_z0, s4_z1, s4_fR1, s41_a, s41_t, s41_n, s4_fR2, s42_a, s42_t, s42_n, s4_fR3, s43_a, s43_t, s43_n, s4_fR5, s45_a, s45_t, s45_n, s4_fR7, s47_a, s47_t, s47_n, s4_fR8, s48_a, s48_t, s48_n, s4_fR10, s410_a, s410_t, s410_n, s4_fR11, s411_a, s411_t, s411_n, s4_fR12, s412_a, s412_t, s412_n, s4_fR13, s413_a, s413_t, s413_n, fX3_goThrough_L2, s4_la hsJ]) (n := N) (by omega) (s := I) ⟨hY, fun _ _ => rfl⟩
  refine ⟨J, ?_, g1, g2⟩
  unfold fX3_goThrough
  simp only [i_lit]
  rw [e]; rfl
theorem mG_9 (hO : hOk H) {S : Nat → Bool} : ∀ m, m ≤ H 0 → mG H S m ≤ 9 := by
  intro m
  induction m with
  | zero => intro _; exact Nat.zero_le _
  | succ m ih =>
    intro hm
    have e : mG H S (m + 1) = if S m then (if mG H S m < H (5 + m) then H (5 + m) else mG H S m) else mG H S m := rfl
    have := ih (by omega)
    have h5 := (hO.2.2.2.2.2.2.1 m (by omega)).2.1
    rw [e]
    split
    · split <;> omega
    · omega
theorem c_hWide (hN : 1200 < N) (hO : hOk H) (hs : RS 4 H I) {l : Nat} (hl : l < H 2) : fX3_highestWideEnough N 124 (i32 l) (mk I L r) = some (i32 (mG H (Sw H l) (H 0)), mk I L r) := by
  have o0 := hO.1; have o1 := hO.2.1; have o2 := hO.2.2.1; have o3 := hO.2.2.2.1; have o4 := hO.2.2.2.2.1; have o5 := hO.2.2.2.2.2.1; have lg2_l := lg_2 (H := H) (l := l); have lg3_l := lg_3 (H := H) (l := l)
  unfold fX3_highestWideEnough
  simp only [i_lit]
  rw [lp_foJ (F := fun n v s => fX3_highestWideEnough_L4 N 124 (i32 l) n (i32 s) v (mk I L r)) (m := H 0) (fun k s => s ≤ 9) (fun b s => if Sw H l b then (if s < H (5 + b) then H (5 + b) else s) else s) (fun s => (i32 s, mk I L r)) ?_ ?_ ?_ (by omega) 0 (by omega)]
  · rfl
  · intro n k s hk hs9
    have wd_k := hO.2.2.2.2.2.2.1 k (by assumption)
    by_cases c : lg H l ≤ H (11 + k)
    · have c' : Sw H l k = true := decide_eq_true c
      by_cases c2 : s < H (5 + k)
      · simp (disch := first | assumption | omega | rfl) only [i_rem, i_pred, i_addn1, i_lit, i_n1, i_add, i_mul, i_sub, i_le, i_lt, i_eq, i_ne1, n1_ne, n1_lt, n1_le, i_lt1, i_le1, bd_s, nar_bi, nar_0, nar_1, if_pos, if_neg, ↓reduceIte, reduceCtorEq, eq_self, if_true, if_false, not_true_eq_false, not_false_eq_true, kp_k, kp_fI, kp_fL, kp_pI, kp_pL, kp_z0, kp_z1, kp_fR0, s4_k, s4_fI, s4_fL, s4_pI, s4_pL, s4_z0, s4_z1, s4_fR1, s41_a, s41_t, s41_n, s4_fR2, s42_a, s42_t, s42_n, s4_fR3, s43_a, s43_t, s43_n, s4_fR5, s45_a, s45_t, s45_n, s4_fR7, s47_a, s47_t, s47_n, s4_fR8, s48_a, s48_t, s48_n, s4_fR10, s410_a, s410_t, s410_n, s4_fR11, s411_a, s411_t, s411_n, s4_fR12, s412_a, s412_t, s412_n, s4_fR13, s413_a, s413_t, s413_n, fX3_highestWideEnough_L4, s4_nb hs, s4_wd hs, s4_lg hs, s4_ht hs, c']
      · simp (disch := first | assumption | omega | rfl) only [i_rem, i_pred, i_addn1, i_lit, i_n1, i_add, i_mul, i_sub, i_le, i_lt, i_eq, i_ne1, n1_ne, n1_lt, n1_le, i_lt1, i_le1, bd_s, nar_bi, nar_0, nar_1, if_pos, if_neg, ↓reduceIte, reduceCtorEq, eq_self, if_true, if_false, not_true_eq_false, not_false_eq_true, kp_k, kp_fI, kp_fL, kp_pI, kp_pL, kp_z0, kp_z1, kp_fR0, s4_k, s4_fI, s4_fL, s4_pI, s4_pL, s4_z0, s4_z1, s4_fR1, s41_a, s41_t, s41_n, s4_fR2, s42_a, s42_t, s42_n, s4_fR3, s43_a, s43_t, s43_n, s4_fR5, s45_a, s45_t, s45_n, s4_fR7, s47_a, s47_t, s47_n, s4_fR8, s48_a, s48_t, s48_n, s4_fR10, s410_a, s410_t, s410_n, s4_fR11, s411_a, s411_t, s411_n, s4_fR12, s412_a, s412_t, s412_n, s4_fR13, s413_a, s413_t, s413_n, fX3_highestWideEnough_L4, s4_nb hs, s4_wd hs, s4_lg hs, s4_ht hs, c']
    · have c' : Sw H l k = false := decide_eq_false c
      simp (disch := first | assumption | omega | rfl) only [i_rem, i_pred, i_addn1, i_lit, i_n1, i_add, i_mul, i_sub, i_le, i_lt, i_eq, i_ne1, n1_ne, n1_lt, n1_le, i_lt1, i_le1, bd_s, nar_bi, nar_0, nar_1, if_pos, if_neg, ↓reduceIte, reduceCtorEq, eq_self, if_true, if_false, not_true_eq_false, not_false_eq_true, kp_k, kp_fI, kp_fL, kp_pI, kp_pL, kp_z0, kp_z1, kp_fR0, s4_k, s4_fI, s4_fL, s4_pI, s4_pL, s4_z0, s4_z1, s4_fR1, s41_a, s41_t, s41_n, s4_fR2, s42_a, s42_t, s42_n, s4_fR3, s43_a, s43_t, s43_n, s4_fR5, s45_a, s45_t, s45_n, s4_fR7, s47_a, s47_t, s47_n, s4_fR8, s48_a, s48_t, s48_n, s4_fR10, s410_a, s410_t, s410_n, s4_fR11, s411_a, s411_t, s411_n, s4_fR12, s412_a, s412_t, s412_n, s4_fR13, s413_a, s413_t, s413_n, fX3_highestWideEnough_L4, s4_nb hs, s4_wd hs, s4_lg hs, c']
  · intro k s hk hs9
    have wd_k := hO.2.2.2.2.2.2.1 k (by assumption)
    show (if Sw H l k then (if s < H (5 + k) then H (5 + k) else s) else s) ≤ 9
    split
    · split <;> omega
    · exact hs9
  · intro n s _
    simp (disch := first | assumption | omega | rfl) only [i_rem, i_pred, i_addn1, i_lit, i_n1, i_add, i_mul, i_sub, i_le, i_lt, i_eq, i_ne1, n1_ne, n1_lt, n1_le, i_lt1, i_le1, bd_s, nar_bi, nar_0, nar_1, if_pos, if_neg, ↓reduceIte, reduceCtorEq, eq_self, if_true, if_false, not_true_eq_false, not_false_eq_true, kp_k, kp_fI, kp_fL, kp_pI, kp_pL, kp_z0, kp_z1, kp_fR0, s4_k, s4_fI, s4_fL, s4_pI, s4_pL, s4_z0, s4_z1, s4_fR1, s41_a, s41_t, s41_n, s4_fR2, s42_a, s42_t, s42_n, s4_fR3, s43_a, s43_t, s43_n, s4_fR5, s45_a, s45_t, s45_n, s4_fR7, s47_a, s47_t, s47_n, s4_fR8, s48_a, s48_t, s48_n, s4_fR10, s410_a, s410_t, s410_n, s4_fR11, s411_a, s411_t, s411_n, s4_fR12, s412_a, s412_t, s412_n, s4_fR13, s413_a, s413_t, s413_n, fX3_highestWideEnough_L4, s4_nb hs]
theorem c_hRead (hN : 1200 < N) (hO : hOk H) (hs : RS 4 H I) (hb : BR 26 B I) {l : Nat} (hl : l < H 2) : fX3_highestReading N 124 26 (i32 l) (mk I L r) = some (i32 (mG H (fun b => rdI H B l b) (H 0)), mk I L r) := by
  have o0 := hO.1; have o1 := hO.2.1; have o2 := hO.2.2.1; have o3 := hO.2.2.2.1; have o4 := hO.2.2.2.2.1; have o5 := hO.2.2.2.2.2.1
  have ha : isBe 26 = true := rfl
  unfold fX3_highestReading
  simp only [i_lit]
  rw [lp_foJ (F := fun n v s => fX3_highestReading_L5 N 124 26 (i32 l) n (i32 s) v (mk I L r)) (m := H 0) (fun k s => s ≤ 9) (fun b s => if rdI H B l b then (if s < H (5 + b) then H (5 + b) else s) else s) (fun s => (i32 s, mk I L r)) ?_ ?_ ?_ (by omega) 0 (by omega)]
  · rfl
  · intro n k s hk hs9
    have wd_k := hO.2.2.2.2.2.2.1 k (by assumption)
    cases c' : rdI H B l k with
    | true =>
      by_cases c2 : s < H (5 + k)
      · simp (disch := first | assumption | omega | rfl) only [i_rem, i_pred, i_addn1, i_lit, i_n1, i_add, i_mul, i_sub, i_le, i_lt, i_eq, i_ne1, n1_ne, n1_lt, n1_le, i_lt1, i_le1, bd_s, nar_bi, nar_0, nar_1, if_pos, if_neg, ↓reduceIte, reduceCtorEq, eq_self, if_true, if_false, not_true_eq_false, not_false_eq_true, kp_k, kp_fI, kp_fL, kp_pI, kp_pL, kp_z0, kp_z1, kp_fR0, s4_k, s4_fI, s4_fL, s4_pI, s4_pL, s4_z0, s4_z1, s4_fR1, s41_a, s41_t, s41_n, s4_fR2, s42_a, s42_t, s42_n, s4_fR3, s43_a, s43_t, s43_n, s4_fR5, s45_a, s45_t, s45_n, s4_fR7, s47_a, s47_t, s47_n, s4_fR8, s48_a, s48_t, s48_n, s4_fR10, s410_a, s410_t, s410_n, s4_fR11, s411_a, s411_t, s411_n, s4_fR12, s412_a, s412_t, s412_n, s4_fR13, s413_a, s413_t, s413_n, be_k, be_fI, be_fL, be_pI, be_pL, be_z0, be_z1, be_fR0, be_fR1, be1_a, be1_t, be1_n, be_fR2, be2_a, be2_t, be2_n, be_fR3, be3_a, be3_t, be3_n, be_fR4, be4_a, be4_t, be4_n, be_fR5, be5_a, be5_t, be5_n, be_fR6, be6_a, be6_t, be6_n, be_fR7, be7_a, be7_t, be7_n, fX3_highestReading_L5, s4_nb hs, c_canBeRead hN hO hs ha hb, s4_ht hs, c', bi_z]
      · simp (disch := first | assumption | omega | rfl) only [i_rem, i_pred, i_addn1, i_lit, i_n1, i_add, i_mul, i_sub, i_le, i_lt, i_eq, i_ne1, n1_ne, n1_lt, n1_le, i_lt1, i_le1, bd_s, nar_bi, nar_0, nar_1, if_pos, if_neg, ↓reduceIte, reduceCtorEq, eq_self, if_true, if_false, not_true_eq_false, not_false_eq_true, kp_k, kp_fI, kp_fL, kp_pI, kp_pL, kp_z0, kp_z1, kp_fR0, s4_k, s4_fI, s4_fL, s4_pI, s4_pL, s4_z0, s4_z1, s4_fR1, s41_a, s41_t, s41_n, s4_fR2, s42_a, s42_t, s42_n, s4_fR3, s43_a, s43_t, s43_n, s4_fR5, s45_a, s45_t, s45_n, s4_fR7, s47_a, s47_t, s47_n, s4_fR8, s48_a, s48_t, s48_n, s4_fR10, s410_a, s410_t, s410_n, s4_fR11, s411_a, s411_t, s411_n, s4_fR12, s412_a, s412_t, s412_n, s4_fR13, s413_a, s413_t, s413_n, be_k, be_fI, be_fL, be_pI, be_pL, be_z0, be_z1, be_fR0, be_fR1, be1_a, be1_t, be1_n, be_fR2, be2_a, be2_t, be2_n, be_fR3, be3_a, be3_t, be3_n, be_fR4, be4_a, be4_t, be4_n, be_fR5, be5_a, be5_t, be5_n, be_fR6, be6_a, be6_t, be6_n, be_fR7, be7_a, be7_t, be7_n, fX3_highestReading_L5, s4_nb hs, c_canBeRead hN hO hs ha hb, s4_ht hs, c', bi_z]
    | false =>
      simp (disch := first | assumption | omega | rfl) only [i_rem, i_pred, i_addn1, i_lit, i_n1, i_add, i_mul, i_sub, i_le, i_lt, i_eq, i_ne1, n1_ne, n1_lt, n1_le, i_lt1, i_le1, bd_s, nar_bi, nar_0, nar_1, if_pos, if_neg, ↓reduceIte, reduceCtorEq, eq_self, if_true, if_false, not_true_eq_false, not_false_eq_true, kp_k, kp_fI, kp_fL, kp_pI, kp_pL, kp_z0, kp_z1, kp_fR0, s4_k, s4_fI, s4_fL, s4_pI, s4_pL, s4_z0, s4_z1, s4_fR1, s41_a, s41_t, s41_n, s4_fR2, s42_a, s42_t, s42_n, s4_fR3, s43_a, s43_t, s43_n, s4_fR5, s45_a, s45_t, s45_n, s4_fR7, s47_a, s47_t, s47_n, s4_fR8, s48_a, s48_t, s48_n, s4_fR10, s410_a, s410_t, s410_n, s4_fR11, s411_a, s411_t, s411_n, s4_fR12, s412_a, s412_t, s412_n, s4_fR13, s413_a, s413_t, s413_n, be_k, be_fI, be_fL, be_pI, be_pL, be_z0, be_z1, be_fR0, be_fR1, be1_a, be1_t, be1_n, be_fR2, be2_a, be2_t, be2_n, be_fR3, be3_a, be3_t, be3_n, be_fR4, be4_a, be4_t, be4_n, be_fR5, be5_a, be5_t, be5_n, be_fR6, be6_a, be6_t, be6_n, be_fR7, be7_a, be7_t, be7_n, fX3_highestReading_L5, s4_nb hs, c_canBeRead hN hO hs ha hb, c', bi_z]
  · intro k s hk hs9
    have wd_k := hO.2.2.2.2.2.2.1 k (by assumption)
    show (if rdI H B l k then (if s < H (5 + k) then H (5 + k) else s) else s) ≤ 9
    split
    · split <;> omega
    · exact hs9
  · intro n s _
    simp (disch := first | assumption | omega | rfl) only [i_rem, i_pred, i_addn1, i_lit, i_n1, i_add, i_mul, i_sub, i_le, i_lt, i_eq, i_ne1, n1_ne, n1_lt, n1_le, i_lt1, i_le1, bd_s, nar_bi, nar_0, nar_1, if_pos, if_neg, ↓reduceIte, reduceCtorEq, eq_self, if_true, if_false, not_true_eq_false, not_false_eq_true, kp_k, kp_fI, kp_fL, kp_pI, kp_pL, kp_z0, kp_z1, kp_fR0, s4_k, s4_fI, s4_fL, s4_pI, s4_pL, s4_z0, s4_z1, s4_fR1, s41_a, s41_t, s41_n, s4_fR2, s42_a, s42_t, s42_n, s4_fR3, s43_a, s43_t, s43_n, s4_fR5, s45_a, s45_t, s45_n, s4_fR7, s47_a, s47_t, s47_n, s4_fR8, s48_a, s48_t, s48_n, s4_fR10, s410_a, s410_t, s410_n, s4_fR11, s411_a, s411_t, s411_n, s4_fR12, s412_a, s412_t, s412_n, s4_fR13, s413_a, s413_t, s413_n, be_k, be_fI, be_fL, be_pI, be_pL, be_z0, be_z1, be_fR0, be_fR1, be1_a, be1_t, be1_n, be_fR2, be2_a, be2_t, be2_n, be_fR3, be3_a, be3_t, be3_n, be_fR4, be4_a, be4_t, be4_n, be_fR5, be5_a, be5_t, be5_n, be_fR6, be6_a, be6_t, be6_n, be_fR7, be7_a, be7_t, be7_n, fX3_highestReading_L5, s4_nb hs]
theorem c_few40 (hN : 1200 < N) (hO : hOk H) (hs : RS 4 H I) (hb : BR 26 B I) (hz : B 0 = i32 h) (hh : h ≤ 400) {K a0 g0 : Nat} (hK : K ≤ 16) (hbe : best < 10) (hX : TB (t1 r) (XK H h best a0 g0 0) I) : ∃ J r', fX3_fewestTimes_L40 N 124 26 (i32 K) (i32 best) N (i32 0) (mk I L r) = some (mk J L r') ∧ TB (t1 r') (XK H h best a0 g0 K) J ∧ ∀ z, z ≠ 125 → z ≠ 126 → J z = I z := by
  have o0 := hO.1; have o1 := hO.2.1; have o2 := hO.2.2.1; have o3 := hO.2.2.2.1; have o4 := hO.2.2.2.2.1; have o5 := hO.2.2.2.2.2.1
  have ha : isBe 26 = true := rfl
  obtain ⟨s, e, g1, g2⟩ := lp_st (F := fun n' v (s : (Nat → Nat → Int32) × Bool) => fX3_fewestTimes_L40 N 124 26 (i32 K) (i32 best) n' v (mk s.1 L s.2)) (m := K) (fun i s => TB (t1 s.2) (XK H h best a0 g0 i) s.1 ∧ ∀ z, z ≠ 125 → z ≠ 126 → s.1 z = I z) (fun s => mk s.1 L s.2) (fun n' i s hi hJ => by
    obtain ⟨J, r1⟩ := s
    obtain ⟨h1, h2⟩ := hJ
    dsimp only at h1 h2 ⊢
    have tr := t2_r (r := r1)
    have tr1 := t1_r (r := r1)
    have t12' := t12 (r := r1)
    have e1 := j_fill (N := N) (I := J) (L := L) (r := r1) (q := t2 r1) (n := 300) (v := i32 1000) (by omega) (by omega) (mk_nA (by rw [t2_K]; decide) t2_N) (fun J k hk => mk_tI t2_K t2_N hk (by omega))
    have fr : ∀ z, z ≠ t2 r1 → fi J (t2 r1) 0 300 (i32 1000) z = J z := fun z hz => fi_row hz
    have hsF : RS 4 H (fi J (t2 r1) 0 300 (i32 1000)) := RS_of (fun z z1 z2 => by rw [fr z (by omega)]; exact h2 z (by omega) (by omega)) hs
    have hrF : fi J (t2 r1) 0 300 (i32 1000) 26 9 = i32 h := by rw [fr 26 (by omega), h2 26 (by omega) (by omega), ← hz]; exact be_hr hb
    have hXF : TB (t1 r1) (XK H h best a0 g0 i) (fi J (t2 r1) 0 300 (i32 1000)) := fun a g z1 z2 => by rw [fr _ t12']; exact h1 a g z1 z2
    have hYF : TB (t2 r1) (fun _ _ => 1000) (fi J (t2 r1) 0 300 (i32 1000)) := fun a g z1 z2 => fi_in (by omega)
    obtain ⟨J2, e2, k1, k2⟩ := c_go (N := N) (L := L) (h := h) (best := best) (i := i) hN hO hsF hXF hYF (fun _ _ => Nat.le_refl _) (XK_1000 i) hbe
    refine ⟨(J2, !r1), ?_, ?_, fun z z1 z2 => ?_⟩
    · simp (disch := first | assumption | omega | rfl) only [i_rem, i_pred, i_addn1, i_lit, i_n1, i_add, i_mul, i_sub, i_le, i_lt, i_eq, i_ne1, n1_ne, n1_lt, n1_le, i_lt1, i_le1, bd_s, nar_bi, nar_0, nar_1, if_pos, if_neg, ↓reduceIte, reduceCtorEq, eq_self, if_true, if_false, not_true_eq_false, not_false_eq_true, kp_k, kp_fI, kp_fL, kp_pI, kp_pL, kp_z0, kp_z1, kp_fR0, s4_k, s4_fI, s4_fL, s4_pI, s4_pL, s4_z0, s4_z1, s4_fR1, s41_a, s41_t, s41_n, s4_fR2, s42_a, s42_t, s42_n, s4_fR3, s43_a, s43_t, s43_n, s4_fR5, s45_a, s45_t, s45_n, s4_fR7, s47_a, s47_t, s47_n, s4_fR8, s48_a, s48_t, s48_n, s4_fR10, s410_a, s410_t, s410_n, s4_fR11, s411_a, s411_t, s411_n, s4_fR12, s412_a, s412_t, s412_n, s4_fR13, s413_a, s413_t, s413_n, be_k, be_fI, be_fL, be_pI, be_pL, be_z0, be_z1, be_fR0, be_fR1, be1_a, be1_t, be1_n, be_fR2, be2_a, be2_t, be2_n, be_fR3, be3_a, be3_t, be3_n, be_fR4, be4_a, be4_t, be4_n, be_fR5, be5_a, be5_t, be5_n, be_fR6, be6_a, be6_t, be6_n, be_fR7, be7_a, be7_t, be7_n, fX3_fewestTimes_L40, kp_f2, kp_f1, e1, hrF, c_tideOf hO hsF, e2, kp_s1, kp_s2]
    · dsimp only
      rw [t1_n]; exact k1
    · dsimp only
      rw [k2 z (by omega), fr z (by omega)]; exact h2 z z1 z2) (fun n' s _ => by
    simp (disch := first | assumption | omega | rfl) only [i_rem, i_pred, i_addn1, i_lit, i_n1, i_add, i_mul, i_sub, i_le, i_lt, i_eq, i_ne1, n1_ne, n1_lt, n1_le, i_lt1, i_le1, bd_s, nar_bi, nar_0, nar_1, if_pos, if_neg, ↓reduceIte, reduceCtorEq, eq_self, if_true, if_false, not_true_eq_false, not_false_eq_true, fX3_fewestTimes_L40]) (n := N) (by omega) (s := (I, r)) ⟨hX, fun _ _ _ => rfl⟩
  exact ⟨s.1, s.2, e, g1, g2⟩
def kRes (v : Nat) : Int32 := if v = 100000 then n1 else i32 v
theorem c_fewestTimes (hN : 1200 < N) (hO : hOk H) (hs : RS 4 H I) (hb : BR 26 B I) (hz : B 0 = i32 h) (hh : h ≤ 400) {K a0 l : Nat} (hK : K ≤ 16) (hl : l < H 2) (ha0 : B (4 + l) = i32 a0) (ha4 : a0 < H 4) : ∃ J r', fX3_fewestTimes N 124 26 (i32 l) (i32 K) (mk I L r) = some (kRes (fK H h (mG H (Sw H l) (H 0)) K 0 a0 (mG H (fun b => rdI H B l b) (H 0))), mk J L r') ∧ ∀ z, z ≠ 125 → z ≠ 126 → J z = I z := by
  have o0 := hO.1; have o1 := hO.2.1; have o2 := hO.2.2.1; have o3 := hO.2.2.2.1; have o4 := hO.2.2.2.2.1; have o5 := hO.2.2.2.2.2.1
  have ha : isBe 26 = true := rfl
  have w9 := mG_9 hO (S := Sw H l) (H 0) (Nat.le_refl _)
  have r9 := mG_9 hO (S := fun b => rdI H B l b) (H 0) (Nat.le_refl _)
  generalize hbe : mG H (Sw H l) (H 0) = best at w9
  generalize hg0 : mG H (fun b => rdI H B l b) (H 0) = g0 at r9
  have tr := t1_r (r := r)
  have e0 := c_hWide (N := N) (L := L) (r := r) hN hO hs hl
  rw [hbe] at e0
  have e1 := j_fill (N := N) (I := I) (L := L) (r := r) (q := t1 r) (n := 300) (v := i32 1000) (by omega) (by omega) (mk_nA (by rw [t1_K]; decide) t1_N) (fun J k hk => mk_tI t1_K t1_N hk (by omega))
  have fr : ∀ z, z ≠ t1 r → fi I (t1 r) 0 300 (i32 1000) z = I z := fun z hz => fi_row hz
  have hsF : RS 4 H (fi I (t1 r) 0 300 (i32 1000)) := RS_of (fun z z1 z2 => fr z (by omega)) hs
  have hbF : BR 26 B (fi I (t1 r) 0 300 (i32 1000)) := BR_of (fun z z1 z2 => fr z (by omega)) hb
  have hag : fi I (t1 r) 0 300 (i32 1000) (26 + 5) l = i32 a0 := by rw [← ha0]; exact be_ag hbF (by omega)
  have e2 := c_hRead (N := N) (L := L) (r := r) hN hO hsF hbF hl
  rw [hg0] at e2
  have hYF : TB (t1 r) (fun _ _ => 1000) (fi I (t1 r) 0 300 (i32 1000)) := fun a g z1 z2 => fi_in (by omega)
  obtain ⟨J1, e3, k1, k2⟩ := c_setFewer (N := N) (L := L) (r := r) (a := a0) (g := g0) (c := 0) t1_K t1_N hYF (fun _ _ => Nat.le_refl _) (by omega) (by omega) (by omega)
  have hs1 : RS 4 H J1 := RS_of (fun z z1 z2 => k2 z (by omega)) hsF
  have hb1 : BR 26 B J1 := BR_of (fun z z1 z2 => k2 z (by omega)) hbF
  obtain ⟨J, r', e4, k3, k4⟩ := c_few40 (N := N) (L := L) (best := best) (a0 := a0) (g0 := g0) hN hO hs1 hb1 hz hh hK (by omega) k1
  have inv := XK_inv (H := H) (h := h) (best := best) (a0 := a0) (g0 := g0) (K := K) (by omega) ha4 (by omega) hK K (Nat.le_refl _)
  rw [Nat.sub_self] at inv
  have hy : ∀ j, j < 300 → J (t1 r') j = i32 (XK H h best a0 g0 K (j / 10) (j % 10)) := fun j hj => by
    have := k3 (j / 10) (j % 10) (by omega) (by omega)
    rw [show j / 10 * 10 + j % 10 = j by omega] at this
    exact this
  have e5 : fX3_fewestTimes_L110 N 124 N (i32 1000) (i32 0) (mk J L r') = some (i32 (fo (fun j s => if XK H h best a0 g0 K (j / 10) (j % 10) ≤ s then XK H h best a0 g0 K (j / 10) (j % 10) else s) 1000 300), mk J L r') := by
    refine lp_foJ (F := fun n v s => fX3_fewestTimes_L110 N 124 n (i32 s) v (mk J L r')) (m := 300) (fun k s => s ≤ 1000) (fun j s => if XK H h best a0 g0 K (j / 10) (j % 10) ≤ s then XK H h best a0 g0 K (j / 10) (j % 10) else s) (fun s => (i32 s, mk J L r')) ?_ ?_ ?_ (by omega) 1000 (by omega)
    · intro n k s hk hs9
      have x1 := XK_1000 (H := H) (h := h) (best := best) (a0 := a0) (g0 := g0) K (k / 10) (k % 10)
      have ea : aI (mk J L r') (t1 r') (i32 k) = some (J (t1 r') k) := mk_aI t1_K t1_N hk (by omega)
      by_cases c1 : XK H h best a0 g0 K (k / 10) (k % 10) < s
      · simp (disch := first | assumption | omega | rfl) only [i_rem, i_pred, i_addn1, i_lit, i_n1, i_add, i_mul, i_sub, i_le, i_lt, i_eq, i_ne1, n1_ne, n1_lt, n1_le, i_lt1, i_le1, bd_s, nar_bi, nar_0, nar_1, if_pos, if_neg, ↓reduceIte, reduceCtorEq, eq_self, if_true, if_false, not_true_eq_false, not_false_eq_true, kp_k, kp_fI, kp_fL, kp_pI, kp_pL, kp_z0, kp_z1, kp_fR0, fX3_fewestTimes_L110, kp_f1, ea, hy k hk]
      · by_cases c2 : XK H h best a0 g0 K (k / 10) (k % 10) = s
        · simp (disch := first | assumption | omega | rfl) only [i_rem, i_pred, i_addn1, i_lit, i_n1, i_add, i_mul, i_sub, i_le, i_lt, i_eq, i_ne1, n1_ne, n1_lt, n1_le, i_lt1, i_le1, bd_s, nar_bi, nar_0, nar_1, if_pos, if_neg, ↓reduceIte, reduceCtorEq, eq_self, if_true, if_false, not_true_eq_false, not_false_eq_true, kp_k, kp_fI, kp_fL, kp_pI, kp_pL, kp_z0, kp_z1, kp_fR0, fX3_fewestTimes_L110, kp_f1, ea, hy k hk, c2, Nat.lt_irrefl, Nat.le_refl]
        · simp (disch := first | assumption | omega | rfl) only [i_rem, i_pred, i_addn1, i_lit, i_n1, i_add, i_mul, i_sub, i_le, i_lt, i_eq, i_ne1, n1_ne, n1_lt, n1_le, i_lt1, i_le1, bd_s, nar_bi, nar_0, nar_1, if_pos, if_neg, ↓reduceIte, reduceCtorEq, eq_self, if_true, if_false, not_true_eq_false, not_false_eq_true, kp_k, kp_fI, kp_fL, kp_pI, kp_pL, kp_z0, kp_z1, kp_fR0, fX3_fewestTimes_L110, kp_f1, ea, hy k hk]
    · intro k s hk hs9
      have hs9' : s ≤ 1000 := hs9
      show (if _ then _ else _) ≤ 1000
      split
      · exact XK_1000 K _ _
      · exact hs9'
    · intro n s _
      simp (disch := first | assumption | omega | rfl) only [i_rem, i_pred, i_addn1, i_lit, i_n1, i_add, i_mul, i_sub, i_le, i_lt, i_eq, i_ne1, n1_ne, n1_lt, n1_le, i_lt1, i_le1, bd_s, nar_bi, nar_0, nar_1, if_pos, if_neg, ↓reduceIte, reduceCtorEq, eq_self, if_true, if_false, not_true_eq_false, not_false_eq_true, kp_k, kp_fI, kp_fL, kp_pI, kp_pL, kp_z0, kp_z1, kp_fR0, fX3_fewestTimes_L110]
  have hmin : ∀ v, v < 1000 → (fo (fun j s => if XK H h best a0 g0 K (j / 10) (j % 10) ≤ s then XK H h best a0 g0 K (j / 10) (j % 10) else s) 1000 300 ≤ v ↔ fK H h best K 0 a0 g0 ≤ v) := by
    intro v hv
    rw [fo_min (f := fun j => XK H h best a0 g0 K (j / 10) (j % 10)) 300 v, ← inv v hv]
    constructor
    · rintro (z | ⟨j, hj, z⟩)
      · omega
      · by_cases c : j / 10 < H 4
        · exact ⟨j / 10, j % 10, c, by omega, z⟩
        · exfalso
          cases hKK : K with
          | zero =>
            rw [hKK] at z
            rcases setX_le.mp z with q | ⟨q1, q2, q3⟩
            · omega
            · omega
          | succ k =>
            rw [hKK] at z
            rcases (tX_le _).mp z with q | ⟨a, g, z1, z2, z3, z4⟩
            · omega
            · have nk : ∀ g s, nxK H h k a g = some s → s.1 < H 4 := by
                intro g s hs
                unfold nxK at hs
                split at hs
                · cases hs; dsimp only; omega
                · split at hs
                  · cases hs; assumption
                  · cases hs
              rcases z4 with ⟨y1, y2⟩ | ⟨y0, y1, y2⟩
              · exact c (nk _ _ y1)
              · exact c (nk _ _ y1)
    · rintro ⟨a, g, z1, z2, z3⟩
      refine Or.inr ⟨a * 10 + g, by omega, ?_⟩
      rw [show (a * 10 + g) / 10 = a by omega, show (a * 10 + g) % 10 = g by omega]
      omega
  have hm1 : fo (fun j s => if XK H h best a0 g0 K (j / 10) (j % 10) ≤ s then XK H h best a0 g0 K (j / 10) (j % 10) else s) 1000 300 ≤ 1000 := (fo_min (f := fun j => XK H h best a0 g0 K (j / 10) (j % 10)) 300 1000).mpr (Or.inl (Nat.le_refl _))
  generalize hmm : fo (fun j s => if XK H h best a0 g0 K (j / 10) (j % 10) ≤ s then XK H h best a0 g0 K (j / 10) (j % 10) else s) 1000 300 = mm at hmin hm1 e5
  refine ⟨J, r', ?_, fun z z1 z2 => ?_⟩
  · rcases fK_val (H := H) (h := h) (best := best) K 0 a0 g0 with hv | hv
    · have hm2 : mm = fK H h best K 0 a0 g0 := by
        have q1 := (hmin (fK H h best K 0 a0 g0) (by omega)).mpr (Nat.le_refl _)
        have q2 := (hmin mm (by omega)).mp (Nat.le_refl _)
        omega
      rw [kRes, if_neg (by omega), ← hm2]
      unfold fX3_fewestTimes
      simp (disch := first | assumption | omega | rfl) only [i_rem, i_pred, i_addn1, i_lit, i_n1, i_add, i_mul, i_sub, i_le, i_lt, i_eq, i_ne1, n1_ne, n1_lt, n1_le, i_lt1, i_le1, bd_s, nar_bi, nar_0, nar_1, if_pos, if_neg, ↓reduceIte, reduceCtorEq, eq_self, if_true, if_false, not_true_eq_false, not_false_eq_true, kp_k, kp_fI, kp_fL, kp_pI, kp_pL, kp_z0, kp_z1, kp_fR0, s4_k, s4_fI, s4_fL, s4_pI, s4_pL, s4_z0, s4_z1, s4_fR1, s41_a, s41_t, s41_n, s4_fR2, s42_a, s42_t, s42_n, s4_fR3, s43_a, s43_t, s43_n, s4_fR5, s45_a, s45_t, s45_n, s4_fR7, s47_a, s47_t, s47_n, s4_fR8, s48_a, s48_t, s48_n, s4_fR10, s410_a, s410_t, s410_n, s4_fR11, s411_a, s411_t, s411_n, s4_fR12, s412_a, s412_t, s412_n, s4_fR13, s413_a, s413_t, s413_n, be_k, be_fI, be_fL, be_pI, be_pL, be_z0, be_z1, be_fR0, be_fR1, be1_a, be1_t, be1_n, be_fR2, be2_a, be2_t, be2_n, be_fR3, be3_a, be3_t, be3_n, be_fR4, be4_a, be4_t, be4_n, be_fR5, be5_a, be5_t, be5_n, be_fR6, be6_a, be6_t, be6_n, be_fR7, be7_a, be7_t, be7_n, kp_f1, e0, e1, hag, e2, e3, e4, e5]
    · have hm2 : mm = 1000 := by
        by_cases q : mm < 1000
        · have := (hmin mm q).mp (Nat.le_refl _); omega
        · omega
      rw [kRes, if_pos hv]
      unfold fX3_fewestTimes
      rw [hm2] at e5
      simp (disch := first | assumption | omega | rfl) only [i_rem, i_pred, i_addn1, i_lit, i_n1, i_add, i_mul, i_sub, i_le, i_lt, i_eq, i_ne1, n1_ne, n1_lt, n1_le, i_lt1, i_le1, bd_s, nar_bi, nar_0, nar_1, if_pos, if_neg, ↓reduceIte, reduceCtorEq, eq_self, if_true, if_false, not_true_eq_false, not_false_eq_true, kp_k, kp_fI, kp_fL, kp_pI, kp_pL, kp_z0, kp_z1, kp_fR0, s4_k, s4_fI, s4_fL, s4_pI, s4_pL, s4_z0, s4_z1, s4_fR1, s41_a, s41_t, s41_n, s4_fR2, s42_a, s42_t, s42_n, s4_fR3, s43_a, s43_t, s43_n, s4_fR5, s45_a, s45_t, s45_n, s4_fR7, s47_a, s47_t, s47_n, s4_fR8, s48_a, s48_t, s48_n, s4_fR10, s410_a, s410_t, s410_n, s4_fR11, s411_a, s411_t, s411_n, s4_fR12, s412_a, s412_t, s412_n, s4_fR13, s413_a, s413_t, s413_n, be_k, be_fI, be_fL, be_pI, be_pL, be_z0, be_z1, be_fR0, be_fR1, be1_a, be1_t, be1_n, be_fR2, be2_a, be2_t, be2_n, be_fR3, be3_a, be3_t, be3_n, be_fR4, be4_a, be4_t, be4_n, be_fR5, be5_a, be5_t, be5_n, be_fR6, be6_a, be6_t, be6_n, be_fR7, be7_a, be7_t, be7_n, kp_f1, e0, e1, hag, e2, e3, e4, e5]
  · rw [k4 z z1 z2, k2 z (by omega), fr z (by omega)]
end
