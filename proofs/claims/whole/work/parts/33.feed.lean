section
variable {A : Abs} {G : Nat → Option Abs} {s n n' : Nat} {P : Nat → Nat → Int32} {T T' : Nat → Nat} {f f' : Int32} {E : Ans} {I J : Nat → Nat → Int32} {L K : Nat → Nat → Int64} {r : Bool} {N : Nat}
theorem WC_tp (e : ∀ q, (q = 0 ∨ (4 ≤ q ∧ q < 15) ∨ (26 ≤ q ∧ q < 34) ∨ (42 ≤ q ∧ q < 109) ∨ (114 ≤ q ∧ q < 119) ∨ q = 127 ∨ q = 131 ∨ q = 133 ∨ (137 ≤ q ∧ q < 186)) → J q = I q) (e2 : ∀ q, ((4 ≤ q ∧ q < 15) ∨ (137 ≤ q ∧ q < 186)) → K q = L q) (ct : CT n' T' f' J K) (h : WC A G s P n T f E I L) : WC A G s P n' T' f' E J K := by
  obtain ⟨⟨h1, h2, h3, h4, h9⟩, h5, h6, h7, h8⟩ := h
  exact ⟨⟨RS_of (fun q z1 z2 => e q (by omega)) h1, NS_of (fun q z1 z2 => e2 q (by omega)) h2, BR_of (fun q z1 z2 => e q (by omega)) h3, SS_of (fun q z1 z2 => e q (by omega)) h4, LT_of (e _ (by omega)) h9⟩, PR_of (fun q z1 z2 => e q (by omega)) h5, fun k hk => CG_of hk (fun q z1 z2 => e q (by omega)) (fun q z1 z2 => e2 q (by omega)) (h6 k hk), ct, CE_of (e _ (by omega)) (e _ (by omega)) (e _ (by omega)) (e _ (by omega)) (e _ (by omega)) h8⟩
theorem WM_tp (e : ∀ q, (q = 188 ∨ q = 190 ∨ q = 191 ∨ q = 196 ∨ q = 198 ∨ q = 200 ∨ q = 202 ∨ q = 204) → J q = I q) (e0 : ∀ k, (k = 24 ∨ k = 27 ∨ k = 31 ∨ k = 32 ∨ k = 34 ∨ k = 39) → J 186 k = I 186 k) (e2 : K 193 = L 193) (e3 : K 195 = L 195) (mt : MT n' T' f' J) (h : WM A G s P n T f E I L) : WM A G s P n' T' f' E J K := by
  obtain ⟨h1, h2, h3, h4, h5⟩ := h
  refine ⟨?_, ?_, ?_, mt, ?_⟩
  · rw [e 188 (by omega), e2]; exact h1
  · unfold MP at *; rw [e 191 (by omega), e0 24 (by omega)]; exact h2
  · exact fun k hk => MG_of (e _ (by omega)) (e _ (by omega)) e3 (h3 k hk)
  · unfold ME at *; rw [e 198 (by omega), e 200 (by omega), e 202 (by omega), e 204 (by omega), e0 27 (by omega), e0 32 (by omega), e0 31 (by omega), e0 39 (by omega), e0 34 (by omega)]; exact h5
theorem i_un (x : Int32) : x = i32 x.toUInt32.toNat := by
  rw [← i_u]; rfl
def by4 (v : Int32) (k : Nat) : Int32 := UInt32.toInt32 (Int32.toUInt32 v >>> (Int32.toUInt32 (i32 k) &&& Int32.toUInt32 (i32 31))) &&& i32 255
def fe (v : Int32) (j : Nat) : Int32 := by4 v (24 - 8 * j)
theorem by4_lt {v : Int32} {k : Nat} : (by4 v k).toUInt32.toNat < 256 := by
  have h : ∀ x : Int32, (x &&& i32 255).toUInt32.toNat < 256 := fun x => by
    have e : (x &&& i32 255).toUInt32 = x.toUInt32 &&& 255 := rfl
    rw [e, UInt32.toNat_and]
    exact Nat.lt_succ_of_le Nat.and_le_right
  exact h _
theorem fe_lt {v : Int32} {k : Nat} : (fe v k).toUInt32.toNat < 256 := by4_lt
def FdA (a b n : Nat) (v : Int32) (I J : Nat → Nat → Int32) : Prop := J a 2 = i32 (n + 4) ∧ (∀ k, k ≠ 2 → J a k = I a k) ∧ (∀ k, k < n → J b k = I b k) ∧ (∀ k, n ≤ k → k < n + 4 → J b k = fe v (k - n)) ∧ ∀ q, q ≠ a → q ≠ b → J q = I q
theorem im24 : i32 24 + -(i32 8) = i32 16 := by decide
theorem im16 : i32 16 + -(i32 8) = i32 8 := by decide
theorem im8 : i32 8 + -(i32 8) = i32 0 := by decide
theorem im0 : i32 0 + -(i32 8) < i32 0 := by decide
theorem c_add1 {n k m : Nat} {v : Int32} (h : I 1 2 = i32 n) (hn : n < 940) (hk : k ≤ 24) : fX9_addFour_L3 N 1 v (m + 1) (i32 k) (mk I L r) = fX9_addFour_L3 N 1 v m (i32 k + -(i32 8)) (mk (up (up I 2 n (by4 v k)) 1 2 (i32 (n + 1))) L r) := by
  simp (disch := first | assumption | omega | rfl) only [i_rem, i_pred, i_addn1, i_lit, i_n1, i_add, i_mul, i_sub, i_le, i_lt, i_eq, i_ne1, n1_ne, n1_lt, n1_le, i_lt1, i_le1, bd_s, nar_bi, nar_0, nar_1, if_pos, if_neg, ↓reduceIte, reduceCtorEq, eq_self, if_true, if_false, not_true_eq_false, not_false_eq_true, tp_k, tp_fI, tp_fL, tp_pI, tp_pL, tp_z0, tp_z1, tp_fR0, tp0_a, tp0_t, tp0_n, tp_fR1, tp1_a, tp1_t, tp1_n, fX9_addFour_L3, h, up_off, by4]
theorem c_addE {m : Nat} {v : Int32} {M : Mem} : fX9_addFour_L3 N 1 v (m + 1) (i32 0 + -(i32 8)) M = some M := by
  simp only [fX9_addFour_L3]; rw [if_pos (by decide)]
theorem up4 {a b n : Nat} {v : Int32} (hab : a ≠ b) : FdA a b n v I (up (up (up (up (up (up (up (up I b n (by4 v 24)) a 2 (i32 (n + 1))) b (n + 1) (by4 v 16)) a 2 (i32 (n + 1 + 1))) b (n + 1 + 1) (by4 v 8)) a 2 (i32 (n + 1 + 1 + 1))) b (n + 1 + 1 + 1) (by4 v 0)) a 2 (i32 (n + 1 + 1 + 1 + 1))) := by
  refine ⟨up_self, fun k hk => ?_, fun k hk => ?_, fun k h1 h2 => ?_, fun q h1 h2 => ?_⟩
  · simp (disch := omega) only [up_at, up_off, if_neg]
  · simp (disch := omega) only [up_at, up_off, if_neg]
  · obtain rfl | rfl | rfl | rfl : k = n ∨ k = n + 1 ∨ k = n + 1 + 1 ∨ k = n + 1 + 1 + 1 := by omega
    · simp (disch := omega) only [up_at, up_off, if_neg, if_pos, fe, Nat.sub_self, if_true]
    · simp (disch := omega) only [up_at, up_off, if_neg, if_pos, fe, if_true]
      rw [show n + 1 - n = 1 by omega]
    · simp (disch := omega) only [up_at, up_off, if_neg, if_pos, fe, if_true]
      rw [show n + 1 + 1 - n = 2 by omega]
    · simp (disch := omega) only [up_at, up_off, if_neg, if_pos, fe, if_true]
      rw [show n + 1 + 1 + 1 - n = 3 by omega]
  · simp (disch := omega) only [up_row]
theorem c_addFour {n : Nat} {v : Int32} (hN : 1200 < N) (h : I 1 2 = i32 n) (hn : n + 4 ≤ 940) : ∃ J, fX9_addFour N 1 v (mk I L r) = some ((), mk J L r) ∧ FdA 1 2 n v I J := by
  obtain ⟨m, rfl⟩ : ∃ m, N = m + 5 := ⟨N - 5, by omega⟩
  refine ⟨_, ?_, up4 (by omega)⟩
  unfold fX9_addFour
  simp only [i_lit]
  have e1 := c_add1 (N := m + 5) (L := L) (r := r) (m := m + 4) (k := 24) (v := v) h (by omega) (by omega)
  have e2 := c_add1 (N := m + 5) (I := up (up I 2 n (by4 v 24)) 1 2 (i32 (n + 1))) (L := L) (r := r) (n := n + 1) (m := m + 3) (k := 16) (v := v) up_self (by omega) (by omega)
  have e3 := c_add1 (N := m + 5) (I := up (up (up (up I 2 n (by4 v 24)) 1 2 (i32 (n + 1))) 2 (n + 1) (by4 v 16)) 1 2 (i32 (n + 1 + 1))) (L := L) (r := r) (n := n + 1 + 1) (m := m + 2) (k := 8) (v := v) up_self (by omega) (by omega)
  have e4 := c_add1 (N := m + 5) (I := up (up (up (up (up (up I 2 n (by4 v 24)) 1 2 (i32 (n + 1))) 2 (n + 1) (by4 v 16)) 1 2 (i32 (n + 1 + 1))) 2 (n + 1 + 1) (by4 v 8)) 1 2 (i32 (n + 1 + 1 + 1))) (L := L) (r := r) (n := n + 1 + 1 + 1) (m := m + 1) (k := 0) (v := v) up_self (by omega) (by omega)
  rw [im24] at e1; rw [im16] at e2; rw [im8] at e3
  rw [e1, e2, e3, e4, c_addE]; rfl
theorem m_add1 {n k m : Nat} {v : Int32} (h : I 186 2 = i32 n) (hn : n < 940) (hk : k ≤ 24) : fX11_come_L3 N 186 v (m + 1) (i32 k) (mk I L r) = fX11_come_L3 N 186 v m (i32 k + -(i32 8)) (mk (up (up I 187 n (by4 v k)) 186 2 (i32 (n + 1))) L r) := by
  simp (disch := first | assumption | omega | rfl) only [i_rem, i_pred, i_addn1, i_lit, i_n1, i_add, i_mul, i_sub, i_le, i_lt, i_eq, i_ne1, n1_ne, n1_lt, n1_le, i_lt1, i_le1, bd_s, nar_bi, nar_0, nar_1, if_pos, if_neg, ↓reduceIte, reduceCtorEq, eq_self, if_true, if_false, not_true_eq_false, not_false_eq_true, mo_k, mo_fI, mo_fL, mo_pI, mo_pL, mo_z0, mo_z1, mo_fR1, mo1_a, mo1_t, mo1_n, mo_fR14, mo14_a, mo14_t, mo14_n, mo_fR15, mo15_a, mo15_t, mo15_n, mo_fR16, mo16_a, mo16_t, mo16_n, mo_fR17, mo17_a, mo17_t, mo17_n, mo_fR18, mo18_a, mo18_t, mo18_n, mo_fR19, mo19_a, mo19_t, mo19_n, mo_fR20, mo20_a, mo20_t, mo20_n, mo_fR21, mo21_a, mo21_t, mo21_n, mo_fR22, mo22_a, mo22_t, mo22_n, mo_fR25, mo25_a, mo25_t, mo25_n, mo_fR26, mo26_a, mo26_t, mo26_n, mo_fR28, mo28_a, mo28_t, mo28_n, mo_fR29, mo29_a, mo29_t, mo29_n, mo_fR30, mo30_a, mo30_t, mo30_n, mo_fR33, mo33_a, mo33_t, mo33_n, mo_fR36, mo36_a, mo36_t, mo36_n, mo_fR37, mo37_a, mo37_t, mo37_n, mo_fR40, mo40_a, mo40_t, mo40_n, fX11_come_L3, h, up_off, by4]
theorem m_addE {m : Nat} {v : Int32} {M : Mem} : fX11_come_L3 N 186 v (m + 1) (i32 0 + -(i32 8)) M = some M := by
  simp only [fX11_come_L3]; rw [if_pos (by decide)]
theorem m_come {n : Nat} {v : Int32} (hN : 1200 < N) (h : I 186 2 = i32 n) (hn : n + 4 ≤ 940) : ∃ J, fX11_come N 186 v (mk I L r) = some ((), mk J L r) ∧ FdA 186 187 n v I J := by
  obtain ⟨m, rfl⟩ : ∃ m, N = m + 5 := ⟨N - 5, by omega⟩
  refine ⟨_, ?_, up4 (by omega)⟩
  unfold fX11_come
  simp only [i_lit]
  have e1 := m_add1 (N := m + 5) (L := L) (r := r) (m := m + 4) (k := 24) (v := v) h (by omega) (by omega)
  have e2 := m_add1 (N := m + 5) (I := up (up I 187 n (by4 v 24)) 186 2 (i32 (n + 1))) (L := L) (r := r) (n := n + 1) (m := m + 3) (k := 16) (v := v) up_self (by omega) (by omega)
  have e3 := m_add1 (N := m + 5) (I := up (up (up (up I 187 n (by4 v 24)) 186 2 (i32 (n + 1))) 187 (n + 1) (by4 v 16)) 186 2 (i32 (n + 1 + 1))) (L := L) (r := r) (n := n + 1 + 1) (m := m + 2) (k := 8) (v := v) up_self (by omega) (by omega)
  have e4 := m_add1 (N := m + 5) (I := up (up (up (up (up (up I 187 n (by4 v 24)) 186 2 (i32 (n + 1))) 187 (n + 1) (by4 v 16)) 186 2 (i32 (n + 1 + 1))) 187 (n + 1 + 1) (by4 v 8)) 186 2 (i32 (n + 1 + 1 + 1))) (L := L) (r := r) (n := n + 1 + 1 + 1) (m := m + 1) (k := 0) (v := v) up_self (by omega) (by omega)
  rw [im24] at e1; rw [im16] at e2; rw [im8] at e3
  rw [e1, e2, e3, e4, m_addE]; rfl
def wv (v1 v2 v3 v4 v5 : Int32) (i : Nat) : Int32 := if i = 0 then v1 else if i = 1 then v2 else if i = 2 then v3 else if i = 3 then v4 else v5
def FdQ (a b n : Nat) (w : Nat → Int32) (I J : Nat → Nat → Int32) : Prop := J a 2 = i32 (n + 20) ∧ (∀ k, k ≠ 2 → J a k = I a k) ∧ (∀ k, k < n → J b k = I b k) ∧ (∀ k, n ≤ k → k < n + 20 → J b k = fe (w ((k - n) / 4)) ((k - n) % 4)) ∧ ∀ q, q ≠ a → q ≠ b → J q = I q
theorem FdQ_of {a b n : Nat} {v1 v2 v3 v4 v5 : Int32} {J1 J2 J3 J4 J5 : Nat → Nat → Int32} (h1 : FdA a b n v1 I J1) (h2 : FdA a b (n + 4) v2 J1 J2) (h3 : FdA a b (n + 8) v3 J2 J3) (h4 : FdA a b (n + 12) v4 J3 J4) (h5 : FdA a b (n + 16) v5 J4 J5) : FdQ a b n (wv v1 v2 v3 v4 v5) I J5 := by
  obtain ⟨a1, b1, c1, d1, e1⟩ := h1
  obtain ⟨a2, b2, c2, d2, e2⟩ := h2
  obtain ⟨a3, b3, c3, d3, e3⟩ := h3
  obtain ⟨a4, b4, c4, d4, e4⟩ := h4
  obtain ⟨a5, b5, c5, d5, e5⟩ := h5
  refine ⟨a5, fun k hk => ?_, fun k hk => ?_, fun k z1 z2 => ?_, fun q z1 z2 => ?_⟩
  · rw [b5 k hk, b4 k hk, b3 k hk, b2 k hk, b1 k hk]
  · rw [c5 k (by omega), c4 k (by omega), c3 k (by omega), c2 k (by omega), c1 k hk]
  · by_cases q1 : k < n + 4
    · rw [c5 k (by omega), c4 k (by omega), c3 k (by omega), c2 k (by omega), d1 k (by omega) (by omega), show (k - n) / 4 = 0 by omega, show (k - n) % 4 = k - n by omega]; rfl
    · by_cases q2 : k < n + 8
      · rw [c5 k (by omega), c4 k (by omega), c3 k (by omega), d2 k (by omega) (by omega), show (k - n) / 4 = 1 by omega, show (k - n) % 4 = k - (n + 4) by omega]; rfl
      · by_cases q3 : k < n + 12
        · rw [c5 k (by omega), c4 k (by omega), d3 k (by omega) (by omega), show (k - n) / 4 = 2 by omega, show (k - n) % 4 = k - (n + 8) by omega]; rfl
        · by_cases q4 : k < n + 16
          · rw [c5 k (by omega), d4 k (by omega) (by omega), show (k - n) / 4 = 3 by omega, show (k - n) % 4 = k - (n + 12) by omega]; rfl
          · rw [d5 k (by omega) (by omega), show (k - n) / 4 = 4 by omega, show (k - n) % 4 = k - (n + 16) by omega]; rfl
  · rw [e5 q z1 z2, e4 q z1 z2, e3 q z1 z2, e2 q z1 z2, e1 q z1 z2]
theorem q_feed (hN : 1200 < N) (h : Ok I L) {v1 v2 v3 v4 v5 : Int32} : Step2 (fX10_feed N 0 v1 v2 v3 v4 v5) (fX11_feed N 186 v1 v2 v3 v4 v5) I L r := by
  obtain ⟨A, G, s, P, n, T, f, E, hC, hM, hI⟩ := h
  obtain ⟨t1, t2, t3, t4, t5⟩ := hC.2.2.2.1
  obtain ⟨u1, u2, u3⟩ := hM.2.2.2.1
  by_cases hn : n + 20 ≤ 940
  · obtain ⟨J1, e1, g1⟩ := c_addFour (N := N) (L := L) (r := r) (v := v1) hN t1 (by omega)
    obtain ⟨J2, e2, g2⟩ := c_addFour (N := N) (L := L) (r := r) (v := v2) hN g1.1 (by omega)
    obtain ⟨J3, e3, g3⟩ := c_addFour (N := N) (L := L) (r := r) (v := v3) hN g2.1 (by omega)
    obtain ⟨J4, e4, g4⟩ := c_addFour (N := N) (L := L) (r := r) (v := v4) hN g3.1 (by omega)
    obtain ⟨J5, e5, g5⟩ := c_addFour (N := N) (L := L) (r := r) (v := v5) hN g4.1 (by omega)
    have g6 := FdQ_of g1 g2 g3 g4 g5
    have m0 : (up J5 186 0 (i32 0)) 186 2 = i32 n := by
      rw [up_ofk (by omega), g6.2.2.2.2 186 (by omega) (by omega)]; exact u1
    obtain ⟨K1, e11, g11⟩ := m_come (N := N) (L := L) (r := r) (v := v1) hN m0 (by omega)
    obtain ⟨K2, e12, g12⟩ := m_come (N := N) (L := L) (r := r) (v := v2) hN g11.1 (by omega)
    obtain ⟨K3, e13, g13⟩ := m_come (N := N) (L := L) (r := r) (v := v3) hN g12.1 (by omega)
    obtain ⟨K4, e14, g14⟩ := m_come (N := N) (L := L) (r := r) (v := v4) hN g13.1 (by omega)
    obtain ⟨K5, e15, g15⟩ := m_come (N := N) (L := L) (r := r) (v := v5) hN g14.1 (by omega)
    have g16 := FdQ_of g11 g12 g13 g14 g15
    have q1 := g6.1
    have q2 := g16.1
    refine ⟨i32 (n + 20), J5, L, r, K5, L, ?_, ?_, A, G, s, P, n + 20, fun k => if k < n then T k else (fe (wv v1 v2 v3 v4 v5 ((k - n) / 4)) ((k - n) % 4)).toUInt32.toNat, f, E, ?_, ?_, hI.1, hI.2.1, hI.2.2.1, fun k hk => ?_⟩
    · unfold fX10_feed
      simp (disch := first | assumption | omega | rfl) only [i_rem, i_pred, i_addn1, i_lit, i_n1, i_add, i_mul, i_sub, i_le, i_lt, i_eq, i_ne1, n1_ne, n1_lt, n1_le, i_lt1, i_le1, bd_s, nar_bi, nar_0, nar_1, if_pos, if_neg, ↓reduceIte, reduceCtorEq, eq_self, if_true, if_false, not_true_eq_false, not_false_eq_true, x0_k, x0_fI, x0_fL, x0_pI, x0_pL, x0_z0, x0_z1, x0_fR0, x0_fR1, x0_fR2, x0_fR3, x0_fR4, x0_fR5, x0_fR6, x0_fR7, x0_fR8, x0_fR9, x0_fR10, x0_fR11, x0_fR12, x0_fR13, x013_a, x013_t, x013_n, x0_fR15, x0_fR16, x0_fR17, x0_fR18, x018_a, x018_t, x018_n, tp_k, tp_fI, tp_fL, tp_pI, tp_pL, tp_z0, tp_z1, tp_fR0, tp0_a, tp0_t, tp0_n, tp_fR1, tp1_a, tp1_t, tp1_n, t1, e1, e2, e3, e4, e5, q1]
    · unfold fX11_feed
      simp (disch := first | assumption | omega | rfl) only [i_rem, i_pred, i_addn1, i_lit, i_n1, i_add, i_mul, i_sub, i_le, i_lt, i_eq, i_ne1, n1_ne, n1_lt, n1_le, i_lt1, i_le1, bd_s, nar_bi, nar_0, nar_1, if_pos, if_neg, ↓reduceIte, reduceCtorEq, eq_self, if_true, if_false, not_true_eq_false, not_false_eq_true, mo_k, mo_fI, mo_fL, mo_pI, mo_pL, mo_z0, mo_z1, mo_fR1, mo1_a, mo1_t, mo1_n, mo_fR14, mo14_a, mo14_t, mo14_n, mo_fR15, mo15_a, mo15_t, mo15_n, mo_fR16, mo16_a, mo16_t, mo16_n, mo_fR17, mo17_a, mo17_t, mo17_n, mo_fR18, mo18_a, mo18_t, mo18_n, mo_fR19, mo19_a, mo19_t, mo19_n, mo_fR20, mo20_a, mo20_t, mo20_n, mo_fR21, mo21_a, mo21_t, mo21_n, mo_fR22, mo22_a, mo22_t, mo22_n, mo_fR25, mo25_a, mo25_t, mo25_n, mo_fR26, mo26_a, mo26_t, mo26_n, mo_fR28, mo28_a, mo28_t, mo28_n, mo_fR29, mo29_a, mo29_t, mo29_n, mo_fR30, mo30_a, mo30_t, mo30_n, mo_fR33, mo33_a, mo33_t, mo33_n, mo_fR36, mo36_a, mo36_t, mo36_n, mo_fR37, mo37_a, mo37_t, mo37_n, mo_fR40, mo40_a, mo40_t, mo40_n, m0, e11, e12, e13, e14, e15, q2]
    · have fr : ∀ q, q ≠ 1 → q ≠ 2 → q < 186 → K5 q = I q := fun q z1 z2 z3 => by
        rw [g16.2.2.2.2 q (by omega) (by omega), up_row (by omega)]; exact g6.2.2.2.2 q z1 z2
      have k1 : K5 1 = J5 1 := by rw [g16.2.2.2.2 1 (by omega) (by omega), up_row (by omega)]
      have k2 : K5 2 = J5 2 := by rw [g16.2.2.2.2 2 (by omega) (by omega), up_row (by omega)]
      refine WC_tp (fun q hq => fr q (by omega) (by omega) (by omega)) (fun _ _ => rfl) ⟨?_, hn, ?_, fun k hk => ?_, t5⟩ hC
      · rw [k1]; exact q1
      · rw [k1, g6.2.1 10 (by omega)]; exact t3
      · rw [k2]
        dsimp only
        by_cases hk2 : k < n
        · rw [if_pos hk2, g6.2.2.1 k hk2]; exact t4 k hk2
        · rw [if_neg hk2, g6.2.2.2.1 k (by omega) hk]; exact i_un _
    · have fr : ∀ q, 188 ≤ q → K5 q = I q := fun q z1 => by
        rw [g16.2.2.2.2 q (by omega) (by omega), up_row (by omega)]; exact g6.2.2.2.2 q (by omega) (by omega)
      have fr2 : ∀ k, k ≠ 0 → k ≠ 2 → K5 186 k = I 186 k := fun k z1 z2 => by
        rw [g16.2.1 k z2, up_ofk z1, g6.2.2.2.2 186 (by omega) (by omega)]
      refine WM_tp (fun q hq => fr q (by omega)) (fun k hk => fr2 k (by omega) (by omega)) rfl rfl ⟨q2, ?_, fun k hk => ?_⟩ hM
      · rw [fr2 10 (by omega) (by omega)]; exact u2
      · dsimp only
        by_cases hk2 : k < n
        · rw [if_pos hk2, g16.2.2.1 k hk2, up_row (by omega), g6.2.2.2.2 187 (by omega) (by omega)]; exact u3 k hk2
        · rw [if_neg hk2, g16.2.2.2.1 k (by omega) hk]; exact i_un _
    · dsimp only
      by_cases hk2 : k < n
      · rw [if_pos hk2]; exact hI.2.2.2 k hk2
      · rw [if_neg hk2]; exact fe_lt
  · refine Step_q (x := n1) (v := i32 0) ⟨hC, hM, hI⟩ ?_ ?_
    · unfold fX10_feed
      simp (disch := first | assumption | omega | rfl) only [i_rem, i_pred, i_addn1, i_lit, i_n1, i_add, i_mul, i_sub, i_le, i_lt, i_eq, i_ne1, n1_ne, n1_lt, n1_le, i_lt1, i_le1, bd_s, nar_bi, nar_0, nar_1, if_pos, if_neg, ↓reduceIte, reduceCtorEq, eq_self, if_true, if_false, not_true_eq_false, not_false_eq_true, x0_k, x0_fI, x0_fL, x0_pI, x0_pL, x0_z0, x0_z1, x0_fR0, x0_fR1, x0_fR2, x0_fR3, x0_fR4, x0_fR5, x0_fR6, x0_fR7, x0_fR8, x0_fR9, x0_fR10, x0_fR11, x0_fR12, x0_fR13, x013_a, x013_t, x013_n, x0_fR15, x0_fR16, x0_fR17, x0_fR18, x018_a, x018_t, x018_n, tp_k, tp_fI, tp_fL, tp_pI, tp_pL, tp_z0, tp_z1, tp_fR0, tp0_a, tp0_t, tp0_n, tp_fR1, tp1_a, tp1_t, tp1_n, t1]
    · unfold fX11_feed
      simp (disch := first | assumption | omega | rfl) only [i_rem, i_pred, i_addn1, i_lit, i_n1, i_add, i_mul, i_sub, i_le, i_lt, i_eq, i_ne1, n1_ne, n1_lt, n1_le, i_lt1, i_le1, bd_s, nar_bi, nar_0, nar_1, if_pos, if_neg, ↓reduceIte, reduceCtorEq, eq_self, if_true, if_false, not_true_eq_false, not_false_eq_true, mo_k, mo_fI, mo_fL, mo_pI, mo_pL, mo_z0, mo_z1, mo_fR1, mo1_a, mo1_t, mo1_n, mo_fR14, mo14_a, mo14_t, mo14_n, mo_fR15, mo15_a, mo15_t, mo15_n, mo_fR16, mo16_a, mo16_t, mo16_n, mo_fR17, mo17_a, mo17_t, mo17_n, mo_fR18, mo18_a, mo18_t, mo18_n, mo_fR19, mo19_a, mo19_t, mo19_n, mo_fR20, mo20_a, mo20_t, mo20_n, mo_fR21, mo21_a, mo21_t, mo21_n, mo_fR22, mo22_a, mo22_t, mo22_n, mo_fR25, mo25_a, mo25_t, mo25_n, mo_fR26, mo26_a, mo26_t, mo26_n, mo_fR28, mo28_a, mo28_t, mo28_n, mo_fR29, mo29_a, mo29_t, mo29_n, mo_fR30, mo30_a, mo30_t, mo30_n, mo_fR33, mo33_a, mo33_t, mo33_n, mo_fR36, mo36_a, mo36_t, mo36_n, mo_fR37, mo37_a, mo37_t, mo37_n, mo_fR40, mo40_a, mo40_t, mo40_n, up_ofk, u1]
theorem q_end (h : Ok I L) {v : Int32} : Step2 (fX10_end N 0 v) (fX11_end N 186 v) I L r := by
  obtain ⟨A, G, s, P, n, T, f, E, hC, hM, hI⟩ := h
  obtain ⟨t1, t2, t3, t4, t5⟩ := hC.2.2.2.1
  obtain ⟨u1, u2, u3⟩ := hM.2.2.2.1
  rcases i_in v (n := n + 1) (by omega) with ⟨k, hk, rfl⟩ | hv
  · refine ⟨i32 1, up I 1 2 (i32 k), L, r, up (up (up I 1 2 (i32 k)) 186 0 (i32 0)) 186 2 (i32 k), L, ?_, ?_, A, G, s, P, k, T, f, E, ?_, ?_, hI.1, hI.2.1, hI.2.2.1, fun j hj => hI.2.2.2 j (by omega)⟩
    · unfold fX10_end
      simp (disch := first | assumption | omega | rfl) only [i_rem, i_pred, i_addn1, i_lit, i_n1, i_add, i_mul, i_sub, i_le, i_lt, i_eq, i_ne1, n1_ne, n1_lt, n1_le, i_lt1, i_le1, bd_s, nar_bi, nar_0, nar_1, if_pos, if_neg, ↓reduceIte, reduceCtorEq, eq_self, if_true, if_false, not_true_eq_false, not_false_eq_true, x0_k, x0_fI, x0_fL, x0_pI, x0_pL, x0_z0, x0_z1, x0_fR0, x0_fR1, x0_fR2, x0_fR3, x0_fR4, x0_fR5, x0_fR6, x0_fR7, x0_fR8, x0_fR9, x0_fR10, x0_fR11, x0_fR12, x0_fR13, x013_a, x013_t, x013_n, x0_fR15, x0_fR16, x0_fR17, x0_fR18, x018_a, x018_t, x018_n, tp_k, tp_fI, tp_fL, tp_pI, tp_pL, tp_z0, tp_z1, tp_fR0, tp0_a, tp0_t, tp0_n, tp_fR1, tp1_a, tp1_t, tp1_n, t1]
    · unfold fX11_end
      simp (disch := first | assumption | omega | rfl) only [i_rem, i_pred, i_addn1, i_lit, i_n1, i_add, i_mul, i_sub, i_le, i_lt, i_eq, i_ne1, n1_ne, n1_lt, n1_le, i_lt1, i_le1, bd_s, nar_bi, nar_0, nar_1, if_pos, if_neg, ↓reduceIte, reduceCtorEq, eq_self, if_true, if_false, not_true_eq_false, not_false_eq_true, mo_k, mo_fI, mo_fL, mo_pI, mo_pL, mo_z0, mo_z1, mo_fR1, mo1_a, mo1_t, mo1_n, mo_fR14, mo14_a, mo14_t, mo14_n, mo_fR15, mo15_a, mo15_t, mo15_n, mo_fR16, mo16_a, mo16_t, mo16_n, mo_fR17, mo17_a, mo17_t, mo17_n, mo_fR18, mo18_a, mo18_t, mo18_n, mo_fR19, mo19_a, mo19_t, mo19_n, mo_fR20, mo20_a, mo20_t, mo20_n, mo_fR21, mo21_a, mo21_t, mo21_n, mo_fR22, mo22_a, mo22_t, mo22_n, mo_fR25, mo25_a, mo25_t, mo25_n, mo_fR26, mo26_a, mo26_t, mo26_n, mo_fR28, mo28_a, mo28_t, mo28_n, mo_fR29, mo29_a, mo29_t, mo29_n, mo_fR30, mo30_a, mo30_t, mo30_n, mo_fR33, mo33_a, mo33_t, mo33_n, mo_fR36, mo36_a, mo36_t, mo36_n, mo_fR37, mo37_a, mo37_t, mo37_n, mo_fR40, mo40_a, mo40_t, mo40_n, up_ofk, up_off, u1]
    · refine WC_tp (fun q hq => by simp (disch := omega) only [up_row]) (fun _ _ => rfl) ⟨?_, by omega, ?_, fun j hj => ?_, t5⟩ hC
      · simp (disch := omega) only [up_at, up_off, upL_at, upL_off, if_pos, if_neg, if_true, true_or, or_true, true_and, and_true]
      · simp (disch := omega) only [up_at, up_off, upL_at, upL_off, if_pos, if_neg, if_true, true_or, or_true, true_and, and_true]; exact t3
      · simp (disch := omega) only [up_at, up_off, upL_at, upL_off, if_pos, if_neg, if_true, true_or, or_true, true_and, and_true]; exact t4 j (by omega)
    · refine WM_tp (fun q hq => by simp (disch := omega) only [up_row]) (fun k hk => by simp (disch := omega) only [up_at, up_off, upL_at, upL_off, if_pos, if_neg, if_true, true_or, or_true, true_and, and_true]) rfl rfl ⟨by simp (disch := omega) only [up_at, up_off, upL_at, upL_off, if_pos, if_neg, if_true, true_or, or_true, true_and, and_true], by simp (disch := omega) only [up_at, up_off, upL_at, upL_off, if_pos, if_neg, if_true, true_or, or_true, true_and, and_true]; exact u2, fun j hj => ?_⟩ hM
      simp (disch := omega) only [up_at, up_off, upL_at, upL_off, if_pos, if_neg, if_true, true_or, or_true, true_and, and_true]; exact u3 j (by omega)
  · refine Step_q (x := i32 0) (v := i32 0) ⟨hC, hM, hI⟩ ?_ ?_
    · unfold fX10_end
      rcases hv with hv | ⟨hv0, hv⟩
      · rw [if_pos hv]; rfl
      · have h1 : ¬ v < 0 := by
          rw [Int32.lt_iff_toInt_lt]; rw [Int32.le_iff_toInt_le] at hv0; omega
        have h2 : ¬ v ≤ i32 n := by
          rw [Int32.le_iff_toInt_le, i_toInt (by omega)]; rw [Int32.le_iff_toInt_le, i_toInt (by omega)] at hv; omega
        rw [if_neg h1]
        simp (disch := first | assumption | omega | rfl) only [x0_k, x0_fI, x0_fL, x0_pI, x0_pL, x0_z0, x0_z1, x0_fR0, x0_fR1, x0_fR2, x0_fR3, x0_fR4, x0_fR5, x0_fR6, x0_fR7, x0_fR8, x0_fR9, x0_fR10, x0_fR11, x0_fR12, x0_fR13, x013_a, x013_t, x013_n, x0_fR15, x0_fR16, x0_fR17, x0_fR18, x018_a, x018_t, x018_n, tp_k, tp_fI, tp_fL, tp_pI, tp_pL, tp_z0, tp_z1, tp_fR0, tp0_a, tp0_t, tp0_n, tp_fR1, tp1_a, tp1_t, tp1_n, bd_s, t1, h2, if_false, i_lit]
    · unfold fX11_end
      rcases hv with hv | ⟨hv0, hv⟩
      · have hv' : v < i32 0 := hv
        simp (disch := first | assumption | omega | rfl) only [mo_k, mo_fI, mo_fL, mo_pI, mo_pL, mo_z0, mo_z1, mo_fR1, mo1_a, mo1_t, mo1_n, mo_fR14, mo14_a, mo14_t, mo14_n, mo_fR15, mo15_a, mo15_t, mo15_n, mo_fR16, mo16_a, mo16_t, mo16_n, mo_fR17, mo17_a, mo17_t, mo17_n, mo_fR18, mo18_a, mo18_t, mo18_n, mo_fR19, mo19_a, mo19_t, mo19_n, mo_fR20, mo20_a, mo20_t, mo20_n, mo_fR21, mo21_a, mo21_t, mo21_n, mo_fR22, mo22_a, mo22_t, mo22_n, mo_fR25, mo25_a, mo25_t, mo25_n, mo_fR26, mo26_a, mo26_t, mo26_n, mo_fR28, mo28_a, mo28_t, mo28_n, mo_fR29, mo29_a, mo29_t, mo29_n, mo_fR30, mo30_a, mo30_t, mo30_n, mo_fR33, mo33_a, mo33_t, mo33_n, mo_fR36, mo36_a, mo36_t, mo36_n, mo_fR37, mo37_a, mo37_t, mo37_n, mo_fR40, mo40_a, mo40_t, mo40_n, bd_s, if_true, i_lit]
        rw [if_pos hv']
      · have h1 : ¬ v < i32 0 := by
          show ¬ v < (0 : Int32)
          rw [Int32.lt_iff_toInt_lt]; rw [Int32.le_iff_toInt_le] at hv0; omega
        have h2 : ¬ v ≤ i32 n := by
          rw [Int32.le_iff_toInt_le, i_toInt (by omega)]; rw [Int32.le_iff_toInt_le, i_toInt (by omega)] at hv; omega
        simp (disch := first | assumption | omega | rfl) only [mo_k, mo_fI, mo_fL, mo_pI, mo_pL, mo_z0, mo_z1, mo_fR1, mo1_a, mo1_t, mo1_n, mo_fR14, mo14_a, mo14_t, mo14_n, mo_fR15, mo15_a, mo15_t, mo15_n, mo_fR16, mo16_a, mo16_t, mo16_n, mo_fR17, mo17_a, mo17_t, mo17_n, mo_fR18, mo18_a, mo18_t, mo18_n, mo_fR19, mo19_a, mo19_t, mo19_n, mo_fR20, mo20_a, mo20_t, mo20_n, mo_fR21, mo21_a, mo21_t, mo21_n, mo_fR22, mo22_a, mo22_t, mo22_n, mo_fR25, mo25_a, mo25_t, mo25_n, mo_fR26, mo26_a, mo26_t, mo26_n, mo_fR28, mo28_a, mo28_t, mo28_n, mo_fR29, mo29_a, mo29_t, mo29_n, mo_fR30, mo30_a, mo30_t, mo30_n, mo_fR33, mo33_a, mo33_t, mo33_n, mo_fR36, mo36_a, mo36_t, mo36_n, mo_fR37, mo37_a, mo37_t, mo37_n, mo_fR40, mo40_a, mo40_t, mo40_n, bd_s, i_lit, h1, if_false, up_ofk, u1, h2]
end
