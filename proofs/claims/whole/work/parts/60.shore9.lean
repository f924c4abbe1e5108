section
variable {A : Abs} {G : Nat → Option Abs} {s n : Nat} {P : Nat → Nat → Int32} {T : Nat → Nat} {f : Int32} {E : Ans} {I J : Nat → Nat → Int32} {L K : Nat → Nat → Int64} {r : Bool} {N : Nat} {H : Nat → Nat} {W : Nat → List Nat}
theorem MA_new (hO : hOk H) {g g' : Nat → Int32} {h h' : Nat → Int64} (h1 : MHz g H) (h2 : NMz h H W) (e1 : ∀ k, k < 35 → g' k = g k) (e2 : ∀ k, k < 16 → h' k = h k) (e3 : ∀ k, k < 164 → g' (35 + k) = B00 k) (e4 : g' 199 = i32 0) : MA (H, W, B00, none) g' 0 h' 0 := by
  obtain ⟨a1, a2, a3, a4, a5, a6⟩ := h1
  obtain ⟨b1, b2, b3⟩ := h2
  have o0 := hO.1; have o1 := hO.2.1; have o2 := hO.2.2.1; have o3 := hO.2.2.2.1; have o4 := hO.2.2.2.2.1; have o5 := hO.2.2.2.2.2.1
  refine ⟨⟨fun k hk => ?_, fun k hk => ?_, fun k hk => ?_, fun k hk => ?_, fun k hk => ?_, fun k hk => ?_⟩, ⟨fun k hk => ?_, fun k hk => ?_, fun k hk => ?_⟩, fun k hk => ?_, ?_⟩
  · dsimp only; rw [Nat.zero_add, e1 k (by omega)]; exact a1 k hk
  · dsimp only at hk ⊢; rw [Nat.zero_add, e1 _ (by omega)]; exact a2 k hk
  · dsimp only at hk ⊢; rw [Nat.zero_add, e1 _ (by omega)]; exact a3 k hk
  · dsimp only at hk ⊢; rw [Nat.zero_add, e1 _ (by omega)]; exact a4 k hk
  · dsimp only at hk ⊢; rw [Nat.zero_add, e1 _ (by omega)]; exact a5 k hk
  · dsimp only at hk ⊢; rw [Nat.zero_add, e1 _ (by omega)]; exact a6 k hk
  · dsimp only at hk ⊢; rw [Nat.zero_add, e2 _ (by omega)]; exact b1 k hk
  · dsimp only at hk ⊢; rw [Nat.zero_add, e2 _ (by omega)]; exact b2 k hk
  · dsimp only at hk ⊢; rw [Nat.zero_add, e2 _ (by omega)]; exact b3 k hk
  · rw [Nat.zero_add]; exact e3 k hk
  · show g' (0 + 199) = i32 0
    rw [Nat.zero_add]; exact e4
theorem q_shore (hN : 1200 < N) (h : Ok I L) : Step2 (fX10_shore N 0) (fX11_shore N 186) I L r := by
  obtain ⟨A, G, s, P, n, T, f, E, hC, hM, hI⟩ := h
  obtain ⟨hG, J1, K1, e1, g1, g2, g3⟩ := c_readFrom (N := N) (r := r) hN hC.2.2.2.1 hI.2.2.2
  have hn9 := hC.2.2.2.1.2.1
  have kw : ∀ k, k < 20 → K1 3 k = i64 (cB 32 (kwd k)) := fun k hk => by rw [g3 3 (by omega) (by omega)]; exact hC.2.2.2.1.2.2.2.2 k hk
  cases hr : shR n T with
  | inl e =>
    rw [hr] at g1
    have g1 : CqR n T 900 (.inl e) J1 K1 := g1
    have f1 := (fault_0 g1).2 rfl
    have f2 : J1 1 10 = i32 e.1 := g1.2.1
    have f3 : J1 1 11 = i32 e.2 := g1.2.2.2.2.1
    have x1 : MT n T f (up J1 1 2 (i32 0)) := by
      obtain ⟨u1, u2, u3⟩ := hM.2.2.2.1
      refine ⟨?_, ?_, fun k hk => ?_⟩
      · rw [up_off (by omega), g2 186 (by omega) (by omega)]; exact u1
      · rw [up_off (by omega), g2 186 (by omega) (by omega)]; exact u2
      · rw [up_off (by omega), g2 187 (by omega) (by omega)]; exact u3 k hk
    obtain ⟨J2, K2, e2, p1, p2, p3, p4, p5⟩ := m_begin (N := N) (L := K1) (r := r) (m := 900) hN x1 hn9 hI.2.2.2 (by omega)
    have s1 : MHR Hz Wz false (up (up (flr J2 189 0 35 (i32 0)) 186 23 (i32 0)) 189 4 (i32 3)) K2 := by
      refine ⟨⟨fun k hk => ?_, fun b hb => absurd hb (Nat.not_lt_zero _), fun b hb => absurd hb (Nat.not_lt_zero _), fun b hb => absurd hb (Nat.not_lt_zero _), fun b hb => absurd hb (Nat.not_lt_zero _), fun b hb => absurd hb (Nat.not_lt_zero _)⟩, ⟨fun b hb => absurd hb (Nat.not_lt_zero _), fun b hb => absurd hb (Nat.not_lt_zero _), fun b hb => absurd hb (Nat.not_lt_zero _)⟩, ?_⟩
      · rw [up_at]
        by_cases c4 : k = 4
        · rw [if_pos c4, c4]; rfl
        · rw [if_neg c4, up_off (by omega), flr_in (by omega), Hz, if_neg c4]
      · rw [up_off (by omega), up_self]; rfl
    have s2 : MqR n T 900 (.inr (nxT T n 900 0)) (up (up (flr J2 189 0 35 (i32 0)) 186 23 (i32 0)) 189 4 (i32 3)) K2 := MqR_s p1 (fun k hk => by rw [up_off (by omega), up_ofk (by omega), flr_row (by omega)]) (by rw [up_row (by omega), up_row (by omega), flr_row (by omega)]) rfl
    obtain ⟨J3, K3, e3, v1, v2⟩ := m_shL (N := N) (r := r) hN 26 0 N Hz Wz false _ _ K2 Hz_ok Hz_n rfl (by omega) (by omega) s1 s2
    have hr' : shL n T 900 26 Hz Wz false 0 (nxT T n 900 0) = .inl e := hr
    rw [hr'] at e3 v1
    have v1 : MqR n T 900 (.inl e) J3 K3 := v1
    have fr : ∀ z, z ≠ 1 → (z < 15 ∨ 26 ≤ z) → z ≠ 186 → z ≠ 189 → J3 z = I z := fun z h1 h2 h3 h4 => by
      rw [v2.1 z h3 h4, up_row h4, up_row h3, flr_row h4, p2 z h3, up_row h1, g2 z h1 h2]
    have fr1 : J3 1 = up J1 1 2 (i32 0) 1 := by rw [v2.1 1 (by omega) (by omega), up_row (by omega), up_row (by omega), flr_row (by omega), p2 1 (by omega)]
    have frL : ∀ z, z ≠ 1 → (z < 15 ∨ 26 ≤ z) → z ≠ 186 → z ≠ 194 → K3 z = L z := fun z h1 h2 h3 h4 => by
      rw [v2.2.2 z h3 h4, p3 z h3, g3 z h1 h2]
    have fr6 : ∀ k, 14 ≤ k → k ≠ 23 → J3 186 k = I 186 k := fun k h1 h2 => by
      rw [v2.2.1 k (by omega) h2, up_off (by omega), up_ofk h2, flr_row (by omega), p5 k h1, up_off (by omega), g2 186 (by omega) (by omega)]
    refine ⟨n1 - i32 e.2, up J1 1 2 (i32 0), K1, r, J3, K3, ?_, ?_, A, G, s, P, 0, T, i32 e.1, E, ?_, ?_, hI.1, hI.2.1, hI.2.2.1, fun k hk => absurd hk (Nat.not_lt_zero _)⟩
    · unfold fX10_shore
      repeat (first | (with_reducible apply bd_eq; (focus (simp (disch := first | assumption | omega | rfl) only [i_rem, i_pred, i_addn1, i_lit, i_n1, i_add, i_mul, i_sub, i_le, i_lt, i_eq, i_ne1, n1_ne, n1_lt, n1_le, i_lt1, i_le1, bd_s, nar_bi, nar_0, nar_1, if_pos, if_neg, ↓reduceIte, reduceCtorEq, eq_self, if_true, if_false, not_true_eq_false, not_false_eq_true, x0_k, x0_fI, x0_fL, x0_pI, x0_pL, x0_z0, x0_z1, x0_fR0, x0_fR1, x0_fR2, x0_fR3, x0_fR4, x0_fR5, x0_fR6, x0_fR7, x0_fR8, x0_fR9, x0_fR10, x0_fR11, x0_fR12, x0_fR13, x013_a, x013_t, x013_n, x0_fR15, x0_fR16, x0_fR17, x0_fR18, x018_a, x018_t, x018_n, tp_k, tp_fI, tp_fL, tp_pI, tp_pL, tp_z0, tp_z1, tp_fR0, tp0_a, tp0_t, tp0_n, tp_fR1, tp1_a, tp1_t, tp1_n, s5_k, s5_fI, s5_fL, s5_pI, s5_pL, s5_z0, s5_z1, s5_fR1, s51_a, s51_t, s51_n, s5_fR2, s52_a, s52_t, s52_n, s5_fR3, s53_a, s53_t, s53_n, s5_fR5, s55_a, s55_t, s55_n, s5_fR7, s57_a, s57_t, s57_n, s5_fR8, s58_a, s58_t, s58_n, s5_fR10, s510_a, s510_t, s510_n, s5_fR11, s511_a, s511_t, s511_n, s5_fR12, s512_a, s512_t, s512_n, s5_fR13, s513_a, s513_t, s513_n, e1, up_ofk, f1, f3]; first | done | (with_reducible rfl; done))); try dsimp only) | (with_reducible apply it_p; (focus (first | assumption | (simp (disch := first | assumption | omega | rfl) only [i_rem, i_pred, i_addn1, i_lit, i_n1, i_add, i_mul, i_sub, i_le, i_lt, i_eq, i_ne1, n1_ne, n1_lt, n1_le, i_lt1, i_le1, bd_s, nar_bi, nar_0, nar_1, if_pos, if_neg, ↓reduceIte, reduceCtorEq, eq_self, if_true, if_false, not_true_eq_false, not_false_eq_true, x0_k, x0_fI, x0_fL, x0_pI, x0_pL, x0_z0, x0_z1, x0_fR0, x0_fR1, x0_fR2, x0_fR3, x0_fR4, x0_fR5, x0_fR6, x0_fR7, x0_fR8, x0_fR9, x0_fR10, x0_fR11, x0_fR12, x0_fR13, x013_a, x013_t, x013_n, x0_fR15, x0_fR16, x0_fR17, x0_fR18, x018_a, x018_t, x018_n, tp_k, tp_fI, tp_fL, tp_pI, tp_pL, tp_z0, tp_z1, tp_fR0, tp0_a, tp0_t, tp0_n, tp_fR1, tp1_a, tp1_t, tp1_n, s5_k, s5_fI, s5_fL, s5_pI, s5_pL, s5_z0, s5_z1, s5_fR1, s51_a, s51_t, s51_n, s5_fR2, s52_a, s52_t, s52_n, s5_fR3, s53_a, s53_t, s53_n, s5_fR5, s55_a, s55_t, s55_n, s5_fR7, s57_a, s57_t, s57_n, s5_fR8, s58_a, s58_t, s58_n, s5_fR10, s510_a, s510_t, s510_n, s5_fR11, s511_a, s511_t, s511_n, s5_fR12, s512_a, s512_t, s512_n, s5_fR13, s513_a, s513_t, s513_n, e1, up_ofk, f1, f3]; first | done | omega)))) | (with_reducible apply it_n; (focus (first | assumption | (simp (disch := first | assumption | omega | rfl) only [i_rem, i_pred, i_addn1, i_lit, i_n1, i_add, i_mul, i_sub, i_le, i_lt, i_eq, i_ne1, n1_ne, n1_lt, n1_le, i_lt1, i_le1, bd_s, nar_bi, nar_0, nar_1, if_pos, if_neg, ↓reduceIte, reduceCtorEq, eq_self, if_true, if_false, not_true_eq_false, not_false_eq_true, x0_k, x0_fI, x0_fL, x0_pI, x0_pL, x0_z0, x0_z1, x0_fR0, x0_fR1, x0_fR2, x0_fR3, x0_fR4, x0_fR5, x0_fR6, x0_fR7, x0_fR8, x0_fR9, x0_fR10, x0_fR11, x0_fR12, x0_fR13, x013_a, x013_t, x013_n, x0_fR15, x0_fR16, x0_fR17, x0_fR18, x018_a, x018_t, x018_n, tp_k, tp_fI, tp_fL, tp_pI, tp_pL, tp_z0, tp_z1, tp_fR0, tp0_a, tp0_t, tp0_n, tp_fR1, tp1_a, tp1_t, tp1_n, s5_k, s5_fI, s5_fL, s5_pI, s5_pL, s5_z0, s5_z1, s5_fR1, s51_a, s51_t, s51_n, s5_fR2, s52_a, s52_t, s52_n, s5_fR3, s53_a, s53_t, s53_n, s5_fR5, s55_a, s55_t, s55_n, s5_fR7, s57_a, s57_t, s57_n, s5_fR8, s58_a, s58_t, s58_n, s5_fR10, s510_a, s510_t, s510_n, s5_fR11, s511_a, s511_t, s511_n, s5_fR12, s512_a, s512_t, s512_n, s5_fR13, s513_a, s513_t, s513_n, e1, up_ofk, f1, f3]; first | done | omega)))))
      all_goals rfl
    · unfold fX11_shore
      simp (disch := first | assumption | omega | rfl) only [i_rem, i_pred, i_addn1, i_lit, i_n1, i_add, i_mul, i_sub, i_le, i_lt, i_eq, i_ne1, n1_ne, n1_lt, n1_le, i_lt1, i_le1, bd_s, nar_bi, nar_0, nar_1, if_pos, if_neg, ↓reduceIte, reduceCtorEq, eq_self, if_true, if_false, not_true_eq_false, not_false_eq_true, mo_k, mo_fI, mo_fL, mo_pI, mo_pL, mo_z0, mo_z1, mo_fR1, mo1_a, mo1_t, mo1_n, mo_fR14, mo14_a, mo14_t, mo14_n, mo_fR15, mo15_a, mo15_t, mo15_n, mo_fR16, mo16_a, mo16_t, mo16_n, mo_fR17, mo17_a, mo17_t, mo17_n, mo_fR18, mo18_a, mo18_t, mo18_n, mo_fR19, mo19_a, mo19_t, mo19_n, mo_fR20, mo20_a, mo20_t, mo20_n, mo_fR21, mo21_a, mo21_t, mo21_n, mo_fR22, mo22_a, mo22_t, mo22_n, mo_fR25, mo25_a, mo25_t, mo25_n, mo_fR26, mo26_a, mo26_t, mo26_n, mo_fR28, mo28_a, mo28_t, mo28_n, mo_fR29, mo29_a, mo29_t, mo29_n, mo_fR30, mo30_a, mo30_t, mo30_n, mo_fR33, mo33_a, mo33_t, mo33_n, mo_fR36, mo36_a, mo36_t, mo36_n, mo_fR37, mo37_a, mo37_t, mo37_n, mo_fR40, mo40_a, mo40_t, mo40_n, e2, m_sh9 hN, e3, MsA]
    · refine WC_tp (fun q hq => fr q (by omega) (by omega) (by omega) (by omega)) (fun q hq => frL q (by omega) (by omega) (by omega) (by omega)) ⟨?_, by omega, ?_, fun k hk => absurd hk (Nat.not_lt_zero _), fun k hk => ?_⟩ hC
      · rw [fr1, up_self]
      · rw [fr1, up_ofk (by omega)]; exact f2
      · rw [frL 3 (by omega) (by omega) (by omega) (by omega)]; exact hC.2.2.2.1.2.2.2.2 k hk
    · refine WM_tp (fun q hq => fr q (by omega) (by omega) (by omega) (by omega)) (fun k hk => fr6 k (by omega) (by omega)) (frL 193 (by omega) (by omega) (by omega) (by omega)) (frL 195 (by omega) (by omega) (by omega) (by omega)) ⟨?_, v1.2.1, fun k hk => absurd hk (Nat.not_lt_zero _)⟩ hM
      rw [v2.2.1 2 (by omega) (by omega), up_off (by omega), up_ofk (by omega), flr_row (by omega)]; exact p4
  | inr x =>
    rw [hr] at g1 hG
    obtain ⟨⟨t, g1⟩, ⟨c, g4⟩, g5⟩ := g1
    obtain ⟨o1, o2, o3⟩ := hG
    have f1 : J1 1 10 = i32 0 := g1.2.2.1
    have sh : RS 15 x.1 (up J1 1 2 (i32 0)) := RS_of (fun q z1 z2 => up_row (by omega)) g4.1
    have lt : LT 15 (up J1 1 2 (i32 0)) := by
      unfold LT; rw [up_off (by omega), g4.2.2]; cases c
      · exact Or.inl rfl
      · exact Or.inr rfl
    obtain ⟨J4, K4, e4, a1, a2, a3, a4, a5, a6⟩ := c_shCopy (N := N) (r := r) (a := 4) (c := 15) (by decide) (by decide) (by omega) o1 sh g4.2.1 lt
    obtain ⟨J5, e5, b1, b2⟩ := c_clear (N := N) (I := J4) (L := K4) (r := r) (a := 26) hN (by decide)
    have J6 : ∃ J6, J6 = up (up (up (up J5 42 1 (i32 0)) 42 2 (i32 0)) 114 5 (i32 0)) 114 6 (i32 0) := ⟨_, rfl⟩
    obtain ⟨J6, hJ6⟩ := J6
    have y16 : J6 4 16 = i32 x.2.2 := by
      rw [hJ6, up_off (by omega), up_off (by omega), up_off (by omega), up_off (by omega), b2 4 (by omega), a4, up_off (by omega)]; exact g5
    have r6 : ∀ q, q ≠ 42 → q ≠ 114 → J6 q = J5 q := fun q h1 h2 => by rw [hJ6]; simp (disch := omega) only [up_row]
    have fr : ∀ q, q ≠ 1 → (q < 4 ∨ 34 ≤ q) → q ≠ 42 → q ≠ 114 → J6 q = I q := fun q h1 h2 h3 h4 => by
      rw [r6 q h3 h4, b2 q (by omega), a5 q (by omega), up_row h1, g2 q h1 (by omega)]
    have frL : ∀ q, q ≠ 1 → (q < 4 ∨ 26 ≤ q) → K4 q = L q := fun q h1 h2 => by
      rw [a6 q (by omega), g3 q h1 (by omega)]
    have x1 : MT n T f J6 := by
      obtain ⟨u1, u2, u3⟩ := hM.2.2.2.1
      refine ⟨?_, ?_, fun k hk => ?_⟩
      · rw [fr 186 (by omega) (by omega) (by omega) (by omega)]; exact u1
      · rw [fr 186 (by omega) (by omega) (by omega) (by omega)]; exact u2
      · rw [fr 187 (by omega) (by omega) (by omega) (by omega)]; exact u3 k hk
    obtain ⟨M2, Q2, e2, p1, p2, p3, p4, p5⟩ := m_begin (N := N) (L := K4) (r := r) (m := 900) hN x1 hn9 hI.2.2.2 (by omega)
    have s1 : MHR Hz Wz false (up (up (flr M2 189 0 35 (i32 0)) 186 23 (i32 0)) 189 4 (i32 3)) Q2 := by
      refine ⟨⟨fun k hk => ?_, fun b hb => absurd hb (Nat.not_lt_zero _), fun b hb => absurd hb (Nat.not_lt_zero _), fun b hb => absurd hb (Nat.not_lt_zero _), fun b hb => absurd hb (Nat.not_lt_zero _), fun b hb => absurd hb (Nat.not_lt_zero _)⟩, ⟨fun b hb => absurd hb (Nat.not_lt_zero _), fun b hb => absurd hb (Nat.not_lt_zero _), fun b hb => absurd hb (Nat.not_lt_zero _)⟩, ?_⟩
      · rw [up_at]
        by_cases c4 : k = 4
        · rw [if_pos c4, c4]; rfl
        · rw [if_neg c4, up_off (by omega), flr_in (by omega), Hz, if_neg c4]
      · rw [up_off (by omega), up_self]; rfl
    have s2 : MqR n T 900 (.inr (nxT T n 900 0)) (up (up (flr M2 189 0 35 (i32 0)) 186 23 (i32 0)) 189 4 (i32 3)) Q2 := MqR_s p1 (fun k hk => by rw [up_off (by omega), up_ofk (by omega), flr_row (by omega)]) (by rw [up_row (by omega), up_row (by omega), flr_row (by omega)]) rfl
    obtain ⟨M3, Q3, e3, v1, v2⟩ := m_shL (N := N) (r := r) hN 26 0 N Hz Wz false _ _ Q2 Hz_ok Hz_n rfl (by omega) (by omega) s1 s2
    have hr' : shL n T 900 26 Hz Wz false 0 (nxT T n 900 0) = .inr x := hr
    rw [hr'] at e3 v1
    obtain ⟨⟨t', v1⟩, ⟨c', v3⟩⟩ := v1
    have h10 : M3 186 10 = i32 0 := v1.2.2.1
    have h2 : M3 186 2 = i32 0 := by
      rw [v2.2.1 2 (by omega) (by omega), up_off (by omega), up_ofk (by omega), flr_row (by omega)]; exact p4
    have fm : ∀ z, z ≠ 186 → z ≠ 189 → M3 z = J6 z := fun z h3 h4 => by
      rw [v2.1 z h3 h4, up_row h4, up_row h3, flr_row h4, p2 z h3]
    have fmL : ∀ z, z ≠ 186 → z ≠ 194 → Q3 z = K4 z := fun z h3 h4 => by
      rw [v2.2.2 z h3 h4, p3 z h3]
    have fm6 : ∀ k, 14 ≤ k → k ≠ 23 → M3 186 k = I 186 k := fun k h1 h2 => by
      rw [v2.2.1 k (by omega) h2, up_off (by omega), up_ofk h2, flr_row (by omega), p5 k h1, fr 186 (by omega) (by omega) (by omega) (by omega)]
    have hM4 : ∃ M4, M4 = up (flr (flr (cpy M3 189 0 188 0 35) 188 35 441 (i32 0)) 188 55 199 n1) 186 24 (i32 0) := ⟨_, rfl⟩
    obtain ⟨M4, hM4⟩ := hM4
    have fn : ∀ z, z ≠ 186 → z ≠ 188 → M4 z = M3 z := fun z h3 h4 => by
      rw [hM4, up_row h3, flr_row h4, flr_row h4, cpy_row h4]
    have fn6 : ∀ k, k ≠ 24 → M4 186 k = M3 186 k := fun k hk => by
      rw [hM4, up_ofk hk, flr_row (by omega), flr_row (by omega), cpy_row (by omega)]
    refine ⟨i32 x.2.2, J6, K4, r, M4, cpyL Q3 194 0 193 0 16, ?_, ?_, (x.1, x.2.1, B00, none), G, 0, P, 0, T, i32 0, E, ?_, ?_, ⟨o1, o2, bOk_00 o1⟩, hI.2.1, fun j hj => absurd hj (Nat.not_lt_zero _), fun k hk => absurd hk (Nat.not_lt_zero _)⟩
    · have c5 : fX5_clear N 42 (mk J5 K4 r) = some ((), mk (up (up J5 42 1 (i32 0)) 42 2 (i32 0)) K4 r) := by
        unfold fX5_clear
        simp (disch := first | assumption | omega | rfl) only [i_rem, i_pred, i_addn1, i_lit, i_n1, i_add, i_mul, i_sub, i_le, i_lt, i_eq, i_ne1, n1_ne, n1_lt, n1_le, i_lt1, i_le1, bd_s, nar_bi, nar_0, nar_1, if_pos, if_neg, ↓reduceIte, reduceCtorEq, eq_self, if_true, if_false, not_true_eq_false, not_false_eq_true, pa_k, pa_fI, pa_fL, pa_pI, pa_pL, pa_z0, pa_z1, pa_fR0]
      have c7 : fX7_clear N 114 (mk (up (up J5 42 1 (i32 0)) 42 2 (i32 0)) K4 r) = some ((), mk J6 K4 r) := by
        have hse : isSe 114 = true := by decide
        unfold fX7_clear
        simp (disch := first | assumption | omega | rfl) only [i_rem, i_pred, i_addn1, i_lit, i_n1, i_add, i_mul, i_sub, i_le, i_lt, i_eq, i_ne1, n1_ne, n1_lt, n1_le, i_lt1, i_le1, bd_s, nar_bi, nar_0, nar_1, if_pos, if_neg, ↓reduceIte, reduceCtorEq, eq_self, if_true, if_false, not_true_eq_false, not_false_eq_true, se_k, se_fI, se_fL, se_pI, se_pL, se_z0, se_z1, se_fR0, se_fR1, se1_a, se1_t, se1_n, se_fR2, se2_a, se2_t, se2_n, se_fR3, se3_a, se3_t, se3_n, se_fR4, se4_a, se4_t, se4_n, hJ6]
      have k26 : mK (mk J4 K4 r) 26 = 1 := be_k (by decide)
      have k114 : mK (mk (up (up J5 42 1 (i32 0)) 42 2 (i32 0)) K4 r) 114 = 8 := se_k (by decide)
      unfold fX10_shore
      repeat (first | (with_reducible apply bd_eq; (focus (simp (disch := first | assumption | omega | rfl) only [i_rem, i_pred, i_addn1, i_lit, i_n1, i_add, i_mul, i_sub, i_le, i_lt, i_eq, i_ne1, n1_ne, n1_lt, n1_le, i_lt1, i_le1, bd_s, nar_bi, nar_0, nar_1, if_pos, if_neg, ↓reduceIte, reduceCtorEq, eq_self, if_true, if_false, not_true_eq_false, not_false_eq_true, x0_k, x0_fI, x0_fL, x0_pI, x0_pL, x0_z0, x0_z1, x0_fR0, x0_fR1, x0_fR2, x0_fR3, x0_fR4, x0_fR5, x0_fR6, x0_fR7, x0_fR8, x0_fR9, x0_fR10, x0_fR11, x0_fR12, x0_fR13, x013_a, x013_t, x013_n, x0_fR15, x0_fR16, x0_fR17, x0_fR18, x018_a, x018_t, x018_n, tp_k, tp_fI, tp_fL, tp_pI, tp_pL, tp_z0, tp_z1, tp_fR0, tp0_a, tp0_t, tp0_n, tp_fR1, tp1_a, tp1_t, tp1_n, s4_k, s4_fI, s4_fL, s4_pI, s4_pL, s4_z0, s4_z1, s4_fR1, s41_a, s41_t, s41_n, s4_fR2, s42_a, s42_t, s42_n, s4_fR3, s43_a, s43_t, s43_n, s4_fR5, s45_a, s45_t, s45_n, s4_fR7, s47_a, s47_t, s47_n, s4_fR8, s48_a, s48_t, s48_n, s4_fR10, s410_a, s410_t, s410_n, s4_fR11, s411_a, s411_t, s411_n, s4_fR12, s412_a, s412_t, s412_n, s4_fR13, s413_a, s413_t, s413_n, s5_k, s5_fI, s5_fL, s5_pI, s5_pL, s5_z0, s5_z1, s5_fR1, s51_a, s51_t, s51_n, s5_fR2, s52_a, s52_t, s52_n, s5_fR3, s53_a, s53_t, s53_n, s5_fR5, s55_a, s55_t, s55_n, s5_fR7, s57_a, s57_t, s57_n, s5_fR8, s58_a, s58_t, s58_n, s5_fR10, s510_a, s510_t, s510_n, s5_fR11, s511_a, s511_t, s511_n, s5_fR12, s512_a, s512_t, s512_n, s5_fR13, s513_a, s513_t, s513_n, pa_k, pa_fI, pa_fL, pa_pI, pa_pL, pa_z0, pa_z1, pa_fR0, e1, up_ofk, f1, e4, e5, c5, c7, k26, k114, y16]; first | done | (with_reducible rfl; done))); try dsimp only) | (with_reducible apply it_p; (focus (first | assumption | (simp (disch := first | assumption | omega | rfl) only [i_rem, i_pred, i_addn1, i_lit, i_n1, i_add, i_mul, i_sub, i_le, i_lt, i_eq, i_ne1, n1_ne, n1_lt, n1_le, i_lt1, i_le1, bd_s, nar_bi, nar_0, nar_1, if_pos, if_neg, ↓reduceIte, reduceCtorEq, eq_self, if_true, if_false, not_true_eq_false, not_false_eq_true, x0_k, x0_fI, x0_fL, x0_pI, x0_pL, x0_z0, x0_z1, x0_fR0, x0_fR1, x0_fR2, x0_fR3, x0_fR4, x0_fR5, x0_fR6, x0_fR7, x0_fR8, x0_fR9, x0_fR10, x0_fR11, x0_fR12, x0_fR13, x013_a, x013_t, x013_n, x0_fR15, x0_fR16, x0_fR17, x0_fR18, x018_a, x018_t, x018_n, tp_k, tp_fI, tp_fL, tp_pI, tp_pL, tp_z0, tp_z1, tp_fR0, tp0_a, tp0_t, tp0_n, tp_fR1, tp1_a, tp1_t, tp1_n, s4_k, s4_fI, s4_fL, s4_pI, s4_pL, s4_z0, s4_z1, s4_fR1, s41_a, s41_t, s41_n, s4_fR2, s42_a, s42_t, s42_n, s4_fR3, s43_a, s43_t, s43_n, s4_fR5, s45_a, s45_t, s45_n, s4_fR7, s47_a, s47_t, s47_n, s4_fR8, s48_a, s48_t, s48_n, s4_fR10, s410_a, s410_t, s410_n, s4_fR11, s411_a, s411_t, s411_n, s4_fR12, s412_a, s412_t, s412_n, s4_fR13, s413_a, s413_t, s413_n, s5_k, s5_fI, s5_fL, s5_pI, s5_pL, s5_z0, s5_z1, s5_fR1, s51_a, s51_t, s51_n, s5_fR2, s52_a, s52_t, s52_n, s5_fR3, s53_a, s53_t, s53_n, s5_fR5, s55_a, s55_t, s55_n, s5_fR7, s57_a, s57_t, s57_n, s5_fR8, s58_a, s58_t, s58_n, s5_fR10, s510_a, s510_t, s510_n, s5_fR11, s511_a, s511_t, s511_n, s5_fR12, s512_a, s512_t, s512_n, s5_fR13, s513_a, s513_t, s513_n, pa_k, pa_fI, pa_fL, pa_pI, pa_pL, pa_z0, pa_z1, pa_fR0, e1, up_ofk, f1, e4, e5, c5, c7, k26, k114, y16]; first | done | omega)))) | (with_reducible apply it_n; (focus (first | assumption | (simp (disch := first | assumption | omega | rfl) only [i_rem, i_pred, i_addn1, i_lit, i_n1, i_add, i_mul, i_sub, i_le, i_lt, i_eq, i_ne1, n1_ne, n1_lt, n1_le, i_lt1, i_le1, bd_s, nar_bi, nar_0, nar_1, if_pos, if_neg, ↓reduceIte, reduceCtorEq, eq_self, if_true, if_false, not_true_eq_false, not_false_eq_true, x0_k, x0_fI, x0_fL, x0_pI, x0_pL, x0_z0, x0_z1, x0_fR0, x0_fR1, x0_fR2, x0_fR3, x0_fR4, x0_fR5, x0_fR6, x0_fR7, x0_fR8, x0_fR9, x0_fR10, x0_fR11, x0_fR12, x0_fR13, x013_a, x013_t, x013_n, x0_fR15, x0_fR16, x0_fR17, x0_fR18, x018_a, x018_t, x018_n, tp_k, tp_fI, tp_fL, tp_pI, tp_pL, tp_z0, tp_z1, tp_fR0, tp0_a, tp0_t, tp0_n, tp_fR1, tp1_a, tp1_t, tp1_n, s4_k, s4_fI, s4_fL, s4_pI, s4_pL, s4_z0, s4_z1, s4_fR1, s41_a, s41_t, s41_n, s4_fR2, s42_a, s42_t, s42_n, s4_fR3, s43_a, s43_t, s43_n, s4_fR5, s45_a, s45_t, s45_n, s4_fR7, s47_a, s47_t, s47_n, s4_fR8, s48_a, s48_t, s48_n, s4_fR10, s410_a, s410_t, s410_n, s4_fR11, s411_a, s411_t, s411_n, s4_fR12, s412_a, s412_t, s412_n, s4_fR13, s413_a, s413_t, s413_n, s5_k, s5_fI, s5_fL, s5_pI, s5_pL, s5_z0, s5_z1, s5_fR1, s51_a, s51_t, s51_n, s5_fR2, s52_a, s52_t, s52_n, s5_fR3, s53_a, s53_t, s53_n, s5_fR5, s55_a, s55_t, s55_n, s5_fR7, s57_a, s57_t, s57_n, s5_fR8, s58_a, s58_t, s58_n, s5_fR10, s510_a, s510_t, s510_n, s5_fR11, s511_a, s511_t, s511_n, s5_fR12, s512_a, s512_t, s512_n, s5_fR13, s513_a, s513_t, s513_n, pa_k, pa_fI, pa_fL, pa_pI, pa_pL, pa_z0, pa_z1, pa_fR0, e1, up_ofk, f1, e4, e5, c5, c7, k26, k114, y16]; first | done | omega)))))
      all_goals rfl
    · unfold fX11_shore
      simp (disch := first | assumption | omega | rfl) only [i_rem, i_pred, i_addn1, i_lit, i_n1, i_add, i_mul, i_sub, i_le, i_lt, i_eq, i_ne1, n1_ne, n1_lt, n1_le, i_lt1, i_le1, bd_s, nar_bi, nar_0, nar_1, if_pos, if_neg, ↓reduceIte, reduceCtorEq, eq_self, if_true, if_false, not_true_eq_false, not_false_eq_true, mo_k, mo_fI, mo_fL, mo_pI, mo_pL, mo_z0, mo_z1, mo_fR1, mo1_a, mo1_t, mo1_n, mo_fR14, mo14_a, mo14_t, mo14_n, mo_fR15, mo15_a, mo15_t, mo15_n, mo_fR16, mo16_a, mo16_t, mo16_n, mo_fR17, mo17_a, mo17_t, mo17_n, mo_fR18, mo18_a, mo18_t, mo18_n, mo_fR19, mo19_a, mo19_t, mo19_n, mo_fR20, mo20_a, mo20_t, mo20_n, mo_fR21, mo21_a, mo21_t, mo21_n, mo_fR22, mo22_a, mo22_t, mo22_n, mo_fR25, mo25_a, mo25_t, mo25_n, mo_fR26, mo26_a, mo26_t, mo26_n, mo_fR28, mo28_a, mo28_t, mo28_n, mo_fR29, mo29_a, mo29_t, mo29_n, mo_fR30, mo30_a, mo30_t, mo30_n, mo_fR33, mo33_a, mo33_t, mo33_n, mo_fR36, mo36_a, mo36_t, mo36_n, mo_fR37, mo37_a, mo37_t, mo37_n, mo_fR40, mo40_a, mo40_t, mo40_n, e2, m_sh9 hN, e3, MsA, m_sh78 hN, m_sh104 hN, m_startSo hN, hM4]
    · obtain ⟨⟨h1, h2, h3, h4, h9⟩, h5, h6, h7, h8⟩ := hC
      have fa : ∀ q, q ≠ 186 → q ≠ 188 → q ≠ 189 → M4 q = J6 q := fun q z1 z2 z3 => by rw [fn q z1 z2, fm q z1 z3]
      have fb : ∀ q, q < 186 → q ≠ 1 → (q < 4 ∨ 34 ≤ q) → q ≠ 42 → q ≠ 114 → M4 q = I q := fun q z0 z1 z2 z3 z4 => by rw [fa q (by omega) (by omega) (by omega), fr q z1 z2 z3 z4]
      have fc : ∀ q, q < 186 → cpyL Q3 194 0 193 0 16 q = K4 q := fun q z0 => by rw [cpyL_row (by omega), fmL q (by omega) (by omega)]
      refine ⟨⟨RS_of (fun q z1 z2 => ?_) a1, NS_of (fun q z1 z2 => fc q (by omega)) a2, BR_of (fun q z1 z2 => ?_) b1, ?_, LT_of ?_ a3⟩, ⟨0, by omega, by omega, ?_, ?_, fun j hj => absurd hj (Nat.not_lt_zero _)⟩, fun k hk => CG_of hk (fun q z1 z2 => fb q (by omega) (by omega) (by omega) (by omega) (by omega)) (fun q z1 z2 => ?_) (h6 k hk), ⟨?_, by omega, ?_, fun k hk => absurd hk (Nat.not_lt_zero _), fun k hk => ?_⟩, CE_of (fb _ (by omega) (by omega) (by omega) (by omega) (by omega)) (fb _ (by omega) (by omega) (by omega) (by omega) (by omega)) (fb _ (by omega) (by omega) (by omega) (by omega) (by omega)) (fb _ (by omega) (by omega) (by omega) (by omega) (by omega)) (fb _ (by omega) (by omega) (by omega) (by omega) (by omega)) h8⟩
      · rw [fa q (by omega) (by omega) (by omega), r6 q (by omega) (by omega), b2 q (by omega)]
      · rw [fa q (by omega) (by omega) (by omega), r6 q (by omega) (by omega)]
      · show M4 114 6 = i32 0
        rw [fa 114 (by omega) (by omega) (by omega), hJ6, up_self]
      · rw [fa 4 (by omega) (by omega) (by omega), r6 4 (by omega) (by omega), b2 4 (by omega)]
      · rw [fa 42 (by omega) (by omega) (by omega), hJ6]; simp (disch := omega) only [up_at, up_off, upL_at, upL_off, if_pos, if_neg, if_true, true_or, or_true, true_and, and_true]
      · rw [fa 42 (by omega) (by omega) (by omega), hJ6]; simp (disch := omega) only [up_at, up_off, upL_at, upL_off, if_pos, if_neg, if_true, true_or, or_true, true_and, and_true]
      · rw [fc q (by omega), frL q (by omega) (by omega)]
      · rw [fa 1 (by omega) (by omega) (by omega), r6 1 (by omega) (by omega), b2 1 (by omega), a5 1 (by omega), up_self]
      · rw [fa 1 (by omega) (by omega) (by omega), r6 1 (by omega) (by omega), b2 1 (by omega), a5 1 (by omega), up_ofk (by omega)]; exact f1
      · rw [fc 3 (by omega), frL 3 (by omega) (by omega)]; exact h7.2.2.2.2 k hk
    · obtain ⟨h1, h3, h4, h5, h6⟩ := hM
      have fb : ∀ q, 187 ≤ q → q ≠ 188 → q ≠ 189 → M4 q = I q := fun q z1 z2 z3 => by rw [fn q (by omega) z2, fm q (by omega) z3, fr q (by omega) (by omega) (by omega) (by omega)]
      have fb6 : ∀ k, 14 ≤ k → k ≠ 23 → k ≠ 24 → M4 186 k = I 186 k := fun k z1 z2 z3 => by rw [fn6 k z3, fm6 k z1 z2]
      refine ⟨?_, ⟨by omega, by rw [hM4, up_self], fun j hj => absurd hj (Nat.not_lt_zero _)⟩, fun k hk => MG_of (fb _ (by omega) (by omega) (by omega)) (fb _ (by omega) (by omega) (by omega)) ?_ (h4 k hk), ⟨?_, ?_, fun k hk => absurd hk (Nat.not_lt_zero _)⟩, ?_⟩
      · refine MA_new o1 v3.1 v3.2.1 (fun k hk => ?_) (fun k hk => ?_) (fun k hk => ?_) ?_
        · rw [hM4, up_row (by omega), flr_out (by omega), flr_out (by omega), cpy_in (by omega), Nat.zero_add, Nat.sub_zero]
        · rw [cpyL_in (by omega), Nat.zero_add, Nat.sub_zero]
        · rw [hM4, up_row (by omega), B00]
          by_cases hk2 : k < 20
          · rw [if_pos hk2, flr_out (by omega), flr_in (by omega)]
          · rw [if_neg hk2, flr_in (by omega)]
        · rw [hM4, up_row (by omega), flr_out (by omega), flr_in (by omega)]
      · rw [cpyL_row (by omega), fmL 195 (by omega) (by omega), frL 195 (by omega) (by omega)]
      · rw [fn6 2 (by omega)]; exact h2
      · rw [fn6 10 (by omega)]; exact h10
      · unfold ME at *; rw [fb 198 (by omega) (by omega) (by omega), fb 200 (by omega) (by omega) (by omega), fb 202 (by omega) (by omega) (by omega), fb 204 (by omega) (by omega) (by omega), fb6 27 (by omega) (by omega) (by omega), fb6 32 (by omega) (by omega) (by omega), fb6 31 (by omega) (by omega) (by omega), fb6 39 (by omega) (by omega) (by omega), fb6 34 (by omega) (by omega) (by omega)]; exact h6
end
