section
variable {I J : Nat → Nat → Int32} {L K : Nat → Nat → Int64} {r : Bool} {N : Nat} {T : Nat → Nat} {n m : Nat} {t : Tok} {e : Nat × Nat} {o : Oc} {H : Nat → Nat} {W : Nat → List Nat} {c : Bool}
/-! tides -/
def tdO (n : Nat) (T : Nat → Nat) (m : Nat) (H : Nat → Nat) (t : Tok) : Oc := if H 3 < 8 then oN n T m 0 9 (.inr (nt n T m t)) else .inl (4, t.2.1)
def tdH (n : Nat) (T : Nat → Nat) (m : Nat) (H : Nat → Nat) (t : Tok) : Nat → Nat := u1 (u1 H 3 (H 3 + 1)) (17 + H 3) (vN 0 9 (.inr (nt n T m t)))
theorem td_ok (hO : hOk H) (hn : nOk H W) (hR : isR (tdO n T m H t) = true) : hOk (tdH n T m H t) ∧ nOk (tdH n T m H t) W := by
  have o0 := hO.1; have o1 := hO.2.1; have o2 := hO.2.2.1; have o3 := hO.2.2.2.1; have o4 := hO.2.2.2.2.1; have o5 := hO.2.2.2.2.2.1
  obtain ⟨_, _, _, _, _, _, p1, p2, p3, p4⟩ := hO
  unfold tdO at hR
  by_cases c0 : H 3 < 8
  · rw [if_pos c0] at hR
    obtain ⟨z1, z2, z3⟩ := oN_R hR
    unfold tdH
    generalize vN 0 9 (.inr (nt n T m t)) = va at z2 z3
    have e0 : u1 (u1 H 3 (H 3 + 1)) (17 + H 3) va 3 = H 3 + 1 := by rw [u1_ne (by omega), u1_eq]
    have ek : ∀ k, k ≠ 3 → k ≠ 17 + H 3 → u1 (u1 H 3 (H 3 + 1)) (17 + H 3) va k = H k := fun k y1 y2 => by rw [u1_ne y2, u1_ne y1]
    refine ⟨⟨by rw [ek 0 (by omega) (by omega)]; exact o0, by rw [ek 1 (by omega) (by omega)]; exact o1, by rw [ek 2 (by omega) (by omega)]; exact o2, by rw [e0]; omega, by rw [ek 4 (by omega) (by omega)]; exact o4, by rw [ek 4 (by omega) (by omega)]; exact o5, fun b hb => ?_, fun k hk => ?_, fun k hk => ?_, fun k hk => ?_⟩, fun b hb => ?_, fun k hk => ?_, fun k hk => ?_⟩
    · rw [ek 0 (by omega) (by omega)] at hb
      rw [ek (5 + b) (by omega) (by omega), ek (11 + b) (by omega) (by omega)]; exact p1 b hb
    · rw [e0] at hk
      by_cases hke : k = H 3
      · rw [hke, u1_eq]; exact z3
      · rw [ek (17 + k) (by omega) (by omega)]; exact p2 k (by omega)
    · rw [ek 1 (by omega) (by omega)] at hk
      rw [ek (25 + k) (by omega) (by omega)]; exact p3 k hk
    · rw [ek 2 (by omega) (by omega)] at hk
      rw [ek (29 + k) (by omega) (by omega)]; exact p4 k hk
    · rw [ek 0 (by omega) (by omega)] at hb; exact hn.1 b hb
    · rw [ek 1 (by omega) (by omega)] at hk; exact hn.2.1 k hk
    · rw [ek 2 (by omega) (by omega)] at hk; exact hn.2.2 k hk
  · rw [if_neg c0] at hR; cases hR
theorem c_readTide (hN : 1200 < N) (hO : hOk H) (hs : ShR H W c I L) (h : CqR n T m (.inr t) I L) : ∃ J K, fX8_readTide N 15 1 (mk I L r) = some ((), mk J K r) ∧ CqR n T m (tdO n T m H t) J K ∧ (isR (tdO n T m H t) = true → ShR (tdH n T m H t) W c J K) ∧ FrW I J L K := by
  have o0 := hO.1; have o1 := hO.2.1; have o2 := hO.2.2.1; have o3 := hO.2.2.2.1; have o4 := hO.2.2.2.2.1; have o5 := hO.2.2.2.2.2.1
  have q0 : I 15 4 = i32 (H 3) := hs.1.1.2.2.2.1
  unfold tdO
  by_cases c0 : H 3 < 8
  · rw [if_pos c0]
    obtain ⟨J1, K1, e1, g1, f1⟩ := c_adv (N := N) (r := r) hN h
    obtain ⟨J4, K4, e4, g4, f4⟩ := c_takeNum (N := N) (r := r) (a := 0) (b := 9) hN g1 (by omega) (by omega)
    have f := f1.tr f4
    have hs4 := ShR_t hs f
    obtain ⟨y1, y2⟩ := fault_0 g4
    unfold tdH
    generalize ho : oN n T m 0 9 (.inr (nt n T m t)) = oo at g4 y1 y2
    cases hR : isR oo with
    | false =>
      have y3 := y2 hR
      refine ⟨J4, K4, ?_, g4, fun z => (by cases z), f.w⟩
      unfold fX8_readTide
      repeat (first | (apply bd_eq; (focus (simp (disch := first | assumption | omega | rfl) only [i_rem, i_pred, i_addn1, i_lit, i_n1, i_add, i_mul, i_sub, i_le, i_lt, i_eq, i_ne1, n1_ne, n1_lt, n1_le, i_lt1, i_le1, bd_s, nar_bi, nar_0, nar_1, if_pos, if_neg, ↓reduceIte, reduceCtorEq, eq_self, if_true, if_false, not_true_eq_false, not_false_eq_true, tp_k, tp_fI, tp_fL, tp_pI, tp_pL, tp_z0, tp_z1, tp_fR0, tp0_a, tp0_t, tp0_n, tp_fR1, tp1_a, tp1_t, tp1_n, s5_k, s5_fI, s5_fL, s5_pI, s5_pL, s5_z0, s5_z1, s5_fR1, s51_a, s51_t, s51_n, s5_fR2, s52_a, s52_t, s52_n, s5_fR3, s53_a, s53_t, s53_n, s5_fR5, s55_a, s55_t, s55_n, s5_fR7, s57_a, s57_t, s57_n, s5_fR8, s58_a, s58_t, s58_n, s5_fR10, s510_a, s510_t, s510_n, s5_fR11, s511_a, s511_t, s511_n, s5_fR12, s512_a, s512_t, s512_n, s5_fR13, s513_a, s513_t, s513_n, q0, e1, e4]; first | done | (with_reducible rfl; done))); try dsimp only) | (apply it_p; (focus (first | assumption | (simp (disch := first | assumption | omega | rfl) only [i_rem, i_pred, i_addn1, i_lit, i_n1, i_add, i_mul, i_sub, i_le, i_lt, i_eq, i_ne1, n1_ne, n1_lt, n1_le, i_lt1, i_le1, bd_s, nar_bi, nar_0, nar_1, if_pos, if_neg, ↓reduceIte, reduceCtorEq, eq_self, if_true, if_false, not_true_eq_false, not_false_eq_true, tp_k, tp_fI, tp_fL, tp_pI, tp_pL, tp_z0, tp_z1, tp_fR0, tp0_a, tp0_t, tp0_n, tp_fR1, tp1_a, tp1_t, tp1_n, s5_k, s5_fI, s5_fL, s5_pI, s5_pL, s5_z0, s5_z1, s5_fR1, s51_a, s51_t, s51_n, s5_fR2, s52_a, s52_t, s52_n, s5_fR3, s53_a, s53_t, s53_n, s5_fR5, s55_a, s55_t, s55_n, s5_fR7, s57_a, s57_t, s57_n, s5_fR8, s58_a, s58_t, s58_n, s5_fR10, s510_a, s510_t, s510_n, s5_fR11, s511_a, s511_t, s511_n, s5_fR12, s512_a, s512_t, s512_n, s5_fR13, s513_a, s513_t, s513_n, q0, e1, e4]; first | done | omega)))) | (apply it_n; (focus (first | assumption | (simp (disch := first | assumption | omega | rfl) only [i_rem, i_pred, i_addn1, i_lit, i_n1, i_add, i_mul, i_sub, i_le, i_lt, i_eq, i_ne1, n1_ne, n1_lt, n1_le, i_lt1, i_le1, bd_s, nar_bi, nar_0, nar_1, if_pos, if_neg, ↓reduceIte, reduceCtorEq, eq_self, if_true, if_false, not_true_eq_false, not_false_eq_true, tp_k, tp_fI, tp_fL, tp_pI, tp_pL, tp_z0, tp_z1, tp_fR0, tp0_a, tp0_t, tp0_n, tp_fR1, tp1_a, tp1_t, tp1_n, s5_k, s5_fI, s5_fL, s5_pI, s5_pL, s5_z0, s5_z1, s5_fR1, s51_a, s51_t, s51_n, s5_fR2, s52_a, s52_t, s52_n, s5_fR3, s53_a, s53_t, s53_n, s5_fR5, s55_a, s55_t, s55_n, s5_fR7, s57_a, s57_t, s57_n, s5_fR8, s58_a, s58_t, s58_n, s5_fR10, s510_a, s510_t, s510_n, s5_fR11, s511_a, s511_t, s511_n, s5_fR12, s512_a, s512_t, s512_n, s5_fR13, s513_a, s513_t, s513_n, q0, e1, e4]; first | done | omega)))))
      all_goals rfl
    | true =>
      have y3 := y1 hR
      generalize hva : vN 0 9 (.inr (nt n T m t)) = va at e4
      obtain ⟨⟨⟨r0, r6, r9, r4, r14⟩, s1, s2, s3, s4, s5, s6, s7⟩, ⟨n1', n2', n3'⟩, hc⟩ := hs4
      refine ⟨up (up J4 19 (H 3) (i32 va)) 15 4 (i32 (H 3 + 1)), K4, ?_, ?_, fun _ => ⟨⟨⟨?_, ?_, ?_, ?_, ?_⟩, ?_, ?_, ?_, ?_, ?_, ?_, ?_⟩, ⟨?_, ?_, ?_⟩, ?_⟩, ?_⟩
      · unfold fX8_readTide
        repeat (first | (apply bd_eq; (focus (simp (disch := first | assumption | omega | rfl) only [i_rem, i_pred, i_addn1, i_lit, i_n1, i_add, i_mul, i_sub, i_le, i_lt, i_eq, i_ne1, n1_ne, n1_lt, n1_le, i_lt1, i_le1, bd_s, nar_bi, nar_0, nar_1, if_pos, if_neg, ↓reduceIte, reduceCtorEq, eq_self, if_true, if_false, not_true_eq_false, not_false_eq_true, tp_k, tp_fI, tp_fL, tp_pI, tp_pL, tp_z0, tp_z1, tp_fR0, tp0_a, tp0_t, tp0_n, tp_fR1, tp1_a, tp1_t, tp1_n, s5_k, s5_fI, s5_fL, s5_pI, s5_pL, s5_z0, s5_z1, s5_fR1, s51_a, s51_t, s51_n, s5_fR2, s52_a, s52_t, s52_n, s5_fR3, s53_a, s53_t, s53_n, s5_fR5, s55_a, s55_t, s55_n, s5_fR7, s57_a, s57_t, s57_n, s5_fR8, s58_a, s58_t, s58_n, s5_fR10, s510_a, s510_t, s510_n, s5_fR11, s511_a, s511_t, s511_n, s5_fR12, s512_a, s512_t, s512_n, s5_fR13, s513_a, s513_t, s513_n, q0, e1, e4, r4, up_off]; first | done | (with_reducible rfl; done))); try dsimp only) | (apply it_p; (focus (first | assumption | (simp (disch := first | assumption | omega | rfl) only [i_rem, i_pred, i_addn1, i_lit, i_n1, i_add, i_mul, i_sub, i_le, i_lt, i_eq, i_ne1, n1_ne, n1_lt, n1_le, i_lt1, i_le1, bd_s, nar_bi, nar_0, nar_1, if_pos, if_neg, ↓reduceIte, reduceCtorEq, eq_self, if_true, if_false, not_true_eq_false, not_false_eq_true, tp_k, tp_fI, tp_fL, tp_pI, tp_pL, tp_z0, tp_z1, tp_fR0, tp0_a, tp0_t, tp0_n, tp_fR1, tp1_a, tp1_t, tp1_n, s5_k, s5_fI, s5_fL, s5_pI, s5_pL, s5_z0, s5_z1, s5_fR1, s51_a, s51_t, s51_n, s5_fR2, s52_a, s52_t, s52_n, s5_fR3, s53_a, s53_t, s53_n, s5_fR5, s55_a, s55_t, s55_n, s5_fR7, s57_a, s57_t, s57_n, s5_fR8, s58_a, s58_t, s58_n, s5_fR10, s510_a, s510_t, s510_n, s5_fR11, s511_a, s511_t, s511_n, s5_fR12, s512_a, s512_t, s512_n, s5_fR13, s513_a, s513_t, s513_n, q0, e1, e4, r4, up_off]; first | done | omega)))) | (apply it_n; (focus (first | assumption | (simp (disch := first | assumption | omega | rfl) only [i_rem, i_pred, i_addn1, i_lit, i_n1, i_add, i_mul, i_sub, i_le, i_lt, i_eq, i_ne1, n1_ne, n1_lt, n1_le, i_lt1, i_le1, bd_s, nar_bi, nar_0, nar_1, if_pos, if_neg, ↓reduceIte, reduceCtorEq, eq_self, if_true, if_false, not_true_eq_false, not_false_eq_true, tp_k, tp_fI, tp_fL, tp_pI, tp_pL, tp_z0, tp_z1, tp_fR0, tp0_a, tp0_t, tp0_n, tp_fR1, tp1_a, tp1_t, tp1_n, s5_k, s5_fI, s5_fL, s5_pI, s5_pL, s5_z0, s5_z1, s5_fR1, s51_a, s51_t, s51_n, s5_fR2, s52_a, s52_t, s52_n, s5_fR3, s53_a, s53_t, s53_n, s5_fR5, s55_a, s55_t, s55_n, s5_fR7, s57_a, s57_t, s57_n, s5_fR8, s58_a, s58_t, s58_n, s5_fR10, s510_a, s510_t, s510_n, s5_fR11, s511_a, s511_t, s511_n, s5_fR12, s512_a, s512_t, s512_n, s5_fR13, s513_a, s513_t, s513_n, q0, e1, e4, r4, up_off]; first | done | omega)))))
        all_goals rfl
      · exact CqR_s g4 (by simp (disch := omega) only [up_row]) (by simp (disch := omega) only [up_row]) rfl rfl
      · rw [up_ofk (by omega), up_row (by omega), u1_ne (by omega), u1_ne (by omega)]; exact r0
      · rw [up_ofk (by omega), up_row (by omega), u1_ne (by omega), u1_ne (by omega)]; exact r6
      · rw [up_ofk (by omega), up_row (by omega), u1_ne (by omega), u1_ne (by omega)]; exact r9
      · rw [up_self, u1_ne (by omega), u1_eq]
      · rw [up_ofk (by omega), up_row (by omega), u1_ne (by omega), u1_ne (by omega)]; exact r14
      · intro b hb
        rw [u1_ne (by omega), u1_ne (by omega)] at hb
        rw [up_row (by omega), up_row (by omega), u1_ne (by omega), u1_ne (by omega)]; exact s1 b hb
      · intro b hb
        rw [u1_ne (by omega), u1_ne (by omega)] at hb
        rw [up_row (by omega), up_row (by omega), u1_ne (by omega), u1_ne (by omega)]; exact s2 b hb
      · intro b hb
        rw [u1_ne (by omega), u1_eq] at hb
        rw [up_row (by omega), up_at]
        by_cases hbe : b = H 3
        · rw [if_pos hbe, hbe, u1_eq]
        · rw [if_neg hbe, u1_ne (by omega), u1_ne (by omega)]; exact s3 b (by omega)
      · intro b hb
        rw [u1_ne (by omega), u1_ne (by omega)] at hb
        rw [up_row (by omega), up_row (by omega), u1_ne (by omega), u1_ne (by omega)]; exact s4 b hb
      · intro b hb
        rw [u1_ne (by omega), u1_ne (by omega)] at hb
        rw [up_row (by omega), up_row (by omega), u1_ne (by omega), u1_ne (by omega)]; exact s5 b hb
      · intro b hb
        rw [u1_ne (by omega), u1_ne (by omega)] at hb
        rw [up_row (by omega), up_row (by omega), lg_c (H := H) (by rw [u1_ne (by omega), u1_ne (by omega)])]; exact s6 b hb
      · intro b hb k hk
        rw [u1_ne (by omega), u1_ne (by omega)] at hb
        rw [lg_c (H := H) (by rw [u1_ne (by omega), u1_ne (by omega)])] at hk
        rw [up_row (by omega), up_row (by omega), sg_c (H := H) (by rw [u1_ne (by omega), u1_ne (by omega)])]; exact s7 b hb k hk
      · intro b hb
        rw [u1_ne (by omega), u1_ne (by omega)] at hb; exact n1' b hb
      · intro b hb
        rw [u1_ne (by omega), u1_ne (by omega)] at hb; exact n2' b hb
      · intro b hb
        rw [u1_ne (by omega), u1_ne (by omega)] at hb; exact n3' b hb
      · rw [up_ofk (by omega), up_row (by omega)]; exact hc
      · refine f.w.tr ⟨fun z z1 z2 => by simp (disch := omega) only [up_row], fun k hk => by simp (disch := omega) only [up_row], fun z z1 z2 => rfl, ?_⟩
        rw [up_ofk (by omega), up_row (by omega)]
  · rw [if_neg c0]
    obtain ⟨J, e3, g1, g2⟩ := c_failR (N := N) (r := r) (k := 4) h (by omega)
    refine ⟨J, L, ?_, g1, fun z => (by cases z), g2.w⟩
    unfold fX8_readTide
    repeat (first | (apply bd_eq; (focus (simp (disch := first | assumption | omega | rfl) only [i_rem, i_pred, i_addn1, i_lit, i_n1, i_add, i_mul, i_sub, i_le, i_lt, i_eq, i_ne1, n1_ne, n1_lt, n1_le, i_lt1, i_le1, bd_s, nar_bi, nar_0, nar_1, if_pos, if_neg, ↓reduceIte, reduceCtorEq, eq_self, if_true, if_false, not_true_eq_false, not_false_eq_true, tp_k, tp_fI, tp_fL, tp_pI, tp_pL, tp_z0, tp_z1, tp_fR0, tp0_a, tp0_t, tp0_n, tp_fR1, tp1_a, tp1_t, tp1_n, s5_k, s5_fI, s5_fL, s5_pI, s5_pL, s5_z0, s5_z1, s5_fR1, s51_a, s51_t, s51_n, s5_fR2, s52_a, s52_t, s52_n, s5_fR3, s53_a, s53_t, s53_n, s5_fR5, s55_a, s55_t, s55_n, s5_fR7, s57_a, s57_t, s57_n, s5_fR8, s58_a, s58_t, s58_n, s5_fR10, s510_a, s510_t, s510_n, s5_fR11, s511_a, s511_t, s511_n, s5_fR12, s512_a, s512_t, s512_n, s5_fR13, s513_a, s513_t, s513_n, q0, e3]; first | done | (with_reducible rfl; done))); try dsimp only) | (apply it_p; (focus (first | assumption | (simp (disch := first | assumption | omega | rfl) only [i_rem, i_pred, i_addn1, i_lit, i_n1, i_add, i_mul, i_sub, i_le, i_lt, i_eq, i_ne1, n1_ne, n1_lt, n1_le, i_lt1, i_le1, bd_s, nar_bi, nar_0, nar_1, if_pos, if_neg, ↓reduceIte, reduceCtorEq, eq_self, if_true, if_false, not_true_eq_false, not_false_eq_true, tp_k, tp_fI, tp_fL, tp_pI, tp_pL, tp_z0, tp_z1, tp_fR0, tp0_a, tp0_t, tp0_n, tp_fR1, tp1_a, tp1_t, tp1_n, s5_k, s5_fI, s5_fL, s5_pI, s5_pL, s5_z0, s5_z1, s5_fR1, s51_a, s51_t, s51_n, s5_fR2, s52_a, s52_t, s52_n, s5_fR3, s53_a, s53_t, s53_n, s5_fR5, s55_a, s55_t, s55_n, s5_fR7, s57_a, s57_t, s57_n, s5_fR8, s58_a, s58_t, s58_n, s5_fR10, s510_a, s510_t, s510_n, s5_fR11, s511_a, s511_t, s511_n, s5_fR12, s512_a, s512_t, s512_n, s5_fR13, s513_a, s513_t, s513_n, q0, e3]; first | done | omega)))) | (apply it_n; (focus (first | assumption | (simp (disch := first | assumption | omega | rfl) only [i_rem, i_pred, i_addn1, i_lit, i_n1, i_add, i_mul, i_sub, i_le, i_lt, i_eq, i_ne1, n1_ne, n1_lt, n1_le, i_lt1, i_le1, bd_s, nar_bi, nar_0, nar_1, if_pos, if_neg, ↓reduceIte, reduceCtorEq, eq_self, if_true, if_false, not_true_eq_false, not_false_eq_true, tp_k, tp_fI, tp_fL, tp_pI, tp_pL, tp_z0, tp_z1, tp_fR0, tp0_a, tp0_t, tp0_n, tp_fR1, tp1_a, tp1_t, tp1_n, s5_k, s5_fI, s5_fL, s5_pI, s5_pL, s5_z0, s5_z1, s5_fR1, s51_a, s51_t, s51_n, s5_fR2, s52_a, s52_t, s52_n, s5_fR3, s53_a, s53_t, s53_n, s5_fR5, s55_a, s55_t, s55_n, s5_fR7, s57_a, s57_t, s57_n, s5_fR8, s58_a, s58_t, s58_n, s5_fR10, s510_a, s510_t, s510_n, s5_fR11, s511_a, s511_t, s511_n, s5_fR12, s512_a, s512_t, s512_n, s5_fR13, s513_a, s513_t, s513_n, q0, e3]; first | done | omega)))))
    all_goals rfl
/-! writers -/
def wrO (n : Nat) (T : Nat → Nat) (m : Nat) (H : Nat → Nat) (W : Nat → List Nat) (t : Tok) : Oc := if H 1 < 4 then oN n T m 1 9 (nmO n T m H W (nt n T m t)) else .inl (4, t.2.1)
def wrH (n : Nat) (T : Nat → Nat) (m : Nat) (H : Nat → Nat) (W : Nat → List Nat) (t : Tok) : Nat → Nat := u1 (u1 H 1 (H 1 + 1)) (25 + H 1) (vN 1 9 (nmO n T m H W (nt n T m t)))
def wrW (n : Nat) (T : Nat → Nat) (m : Nat) (H : Nat → Nat) (W : Nat → List Nat) (t : Tok) : Nat → List Nat := u1 W (6 + H 1) (nt n T m t).2.2.2.1
theorem wr_ok (hO : hOk H) (hn : nOk H W) (h : CqR n T m (.inr t) I L) (hR : isR (wrO n T m H W t) = true) : hOk (wrH n T m H W t) ∧ nOk (wrH n T m H W t) (wrW n T m H W t) := by
  have o0 := hO.1; have o1 := hO.2.1; have o2 := hO.2.2.1; have o3 := hO.2.2.2.1; have o4 := hO.2.2.2.2.1; have o5 := hO.2.2.2.2.2.1
  obtain ⟨_, _, _, _, _, _, p1, p2, p3, p4⟩ := hO
  unfold wrO at hR
  by_cases c0 : H 1 < 4
  · rw [if_pos c0] at hR
    obtain ⟨z1, z2, z3⟩ := oN_R hR
    obtain ⟨z7, z8, z9⟩ := nmO_R z1
    have hw := isNm_w (nt_ok h.1 h.2.2.2) z7
    unfold wrH wrW
    generalize vN 1 9 (nmO n T m H W (nt n T m t)) = va at z2 z3
    have e0 : u1 (u1 H 1 (H 1 + 1)) (25 + H 1) va 1 = H 1 + 1 := by rw [u1_ne (by omega), u1_eq]
    have ek : ∀ k, k ≠ 1 → k ≠ 25 + H 1 → u1 (u1 H 1 (H 1 + 1)) (25 + H 1) va k = H k := fun k y1 y2 => by rw [u1_ne y2, u1_ne y1]
    refine ⟨⟨by rw [ek 0 (by omega) (by omega)]; exact o0, by rw [e0]; omega, by rw [ek 2 (by omega) (by omega)]; exact o2, by rw [ek 3 (by omega) (by omega)]; exact o3, by rw [ek 4 (by omega) (by omega)]; exact o4, by rw [ek 4 (by omega) (by omega)]; exact o5, fun b hb => ?_, fun k hk => ?_, fun k hk => ?_, fun k hk => ?_⟩, fun b hb => ?_, fun k hk => ?_, fun k hk => ?_⟩
    · rw [ek 0 (by omega) (by omega)] at hb
      rw [ek (5 + b) (by omega) (by omega), ek (11 + b) (by omega) (by omega)]; exact p1 b hb
    · rw [ek 3 (by omega) (by omega)] at hk
      rw [ek (17 + k) (by omega) (by omega)]; exact p2 k hk
    · rw [e0] at hk
      by_cases hke : k = H 1
      · rw [hke, u1_eq]; exact ⟨z2, z3⟩
      · rw [ek (25 + k) (by omega) (by omega)]; exact p3 k (by omega)
    · rw [ek 2 (by omega) (by omega)] at hk
      rw [ek (29 + k) (by omega) (by omega)]; exact p4 k hk
    · rw [ek 0 (by omega) (by omega)] at hb
      rw [u1_ne (by omega)]; exact hn.1 b hb
    · rw [e0] at hk
      by_cases hke : k = H 1
      · rw [hke, u1_eq]; exact hw
      · rw [u1_ne (by omega)]; exact hn.2.1 k (by omega)
    · rw [ek 2 (by omega) (by omega)] at hk
      rw [u1_ne (by omega)]; exact hn.2.2 k hk
  · rw [if_neg c0] at hR; cases hR
theorem c_readWriter (hN : 1200 < N) (hO : hOk H) (hn : nOk H W) (hs : ShR H W c I L) (h : CqR n T m (.inr t) I L) : ∃ J K, fX8_readWriter N 15 1 (mk I L r) = some ((), mk J K r) ∧ CqR n T m (wrO n T m H W t) J K ∧ (isR (wrO n T m H W t) = true → ShR (wrH n T m H W t) (wrW n T m H W t) c J K) ∧ FrW I J L K := by
  have o0 := hO.1; have o1 := hO.2.1; have o2 := hO.2.2.1; have o3 := hO.2.2.2.1; have o4 := hO.2.2.2.2.1; have o5 := hO.2.2.2.2.2.1
  have q0 : I 15 6 = i32 (H 1) := hs.1.1.2.1
  unfold wrO
  by_cases c0 : H 1 < 4
  · rw [if_pos c0]
    obtain ⟨J1, K1, e1, g1, f1⟩ := c_adv (N := N) (r := r) hN h
    obtain ⟨J2, K2, e2, g2, f2⟩ := c_newName (N := N) (r := r) hN hO hn (ShR_t hs f1) g1
    obtain ⟨J4, K4, e4, g4, f4⟩ := c_takeNum (N := N) (r := r) (a := 1) (b := 9) hN g2 (by omega) (by omega)
    have f := f1.tr (f2.tr f4)
    have hs4 := ShR_t hs f
    obtain ⟨y1, y2⟩ := fault_0 g4
    unfold wrH wrW
    generalize ho : oN n T m 1 9 (nmO n T m H W (nt n T m t)) = oo at g4 y1 y2
    cases hR : isR oo with
    | false =>
      have y3 := y2 hR
      refine ⟨J4, K4, ?_, g4, fun z => (by cases z), f.w⟩
      unfold fX8_readWriter
      repeat (first | (apply bd_eq; (focus (simp (disch := first | assumption | omega | rfl) only [i_rem, i_pred, i_addn1, i_lit, i_n1, i_add, i_mul, i_sub, i_le, i_lt, i_eq, i_ne1, n1_ne, n1_lt, n1_le, i_lt1, i_le1, bd_s, nar_bi, nar_0, nar_1, if_pos, if_neg, ↓reduceIte, reduceCtorEq, eq_self, if_true, if_false, not_true_eq_false, not_false_eq_true, tp_k, tp_fI, tp_fL, tp_pI, tp_pL, tp_z0, tp_z1, tp_fR0, tp0_a, tp0_t, tp0_n, tp_fR1, tp1_a, tp1_t, tp1_n, s5_k, s5_fI, s5_fL, s5_pI, s5_pL, s5_z0, s5_z1, s5_fR1, s51_a, s51_t, s51_n, s5_fR2, s52_a, s52_t, s52_n, s5_fR3, s53_a, s53_t, s53_n, s5_fR5, s55_a, s55_t, s55_n, s5_fR7, s57_a, s57_t, s57_n, s5_fR8, s58_a, s58_t, s58_n, s5_fR10, s510_a, s510_t, s510_n, s5_fR11, s511_a, s511_t, s511_n, s5_fR12, s512_a, s512_t, s512_n, s5_fR13, s513_a, s513_t, s513_n, q0, e1, e2, e4]; first | done | (with_reducible rfl; done))); try dsimp only) | (apply it_p; (focus (first | assumption | (simp (disch := first | assumption | omega | rfl) only [i_rem, i_pred, i_addn1, i_lit, i_n1, i_add, i_mul, i_sub, i_le, i_lt, i_eq, i_ne1, n1_ne, n1_lt, n1_le, i_lt1, i_le1, bd_s, nar_bi, nar_0, nar_1, if_pos, if_neg, ↓reduceIte, reduceCtorEq, eq_self, if_true, if_false, not_true_eq_false, not_false_eq_true, tp_k, tp_fI, tp_fL, tp_pI, tp_pL, tp_z0, tp_z1, tp_fR0, tp0_a, tp0_t, tp0_n, tp_fR1, tp1_a, tp1_t, tp1_n, s5_k, s5_fI, s5_fL, s5_pI, s5_pL, s5_z0, s5_z1, s5_fR1, s51_a, s51_t, s51_n, s5_fR2, s52_a, s52_t, s52_n, s5_fR3, s53_a, s53_t, s53_n, s5_fR5, s55_a, s55_t, s55_n, s5_fR7, s57_a, s57_t, s57_n, s5_fR8, s58_a, s58_t, s58_n, s5_fR10, s510_a, s510_t, s510_n, s5_fR11, s511_a, s511_t, s511_n, s5_fR12, s512_a, s512_t, s512_n, s5_fR13, s513_a, s513_t, s513_n, q0, e1, e2, e4]; first | done | omega)))) | (apply it_n; (focus (first | assumption | (simp (disch := first | assumption | omega | rfl) only [i_rem, i_pred, i_addn1, i_lit, i_n1, i_add, i_mul, i_sub, i_le, i_lt, i_eq, i_ne1, n1_ne, n1_lt, n1_le, i_lt1, i_le1, bd_s, nar_bi, nar_0, nar_1, if_pos, if_neg, ↓reduceIte, reduceCtorEq, eq_self, if_true, if_false, not_true_eq_false, not_false_eq_true, tp_k, tp_fI, tp_fL, tp_pI, tp_pL, tp_z0, tp_z1, tp_fR0, tp0_a, tp0_t, tp0_n, tp_fR1, tp1_a, tp1_t, tp1_n, s5_k, s5_fI, s5_fL, s5_pI, s5_pL, s5_z0, s5_z1, s5_fR1, s51_a, s51_t, s51_n, s5_fR2, s52_a, s52_t, s52_n, s5_fR3, s53_a, s53_t, s53_n, s5_fR5, s55_a, s55_t, s55_n, s5_fR7, s57_a, s57_t, s57_n, s5_fR8, s58_a, s58_t, s58_n, s5_fR10, s510_a, s510_t, s510_n, s5_fR11, s511_a, s511_t, s511_n, s5_fR12, s512_a, s512_t, s512_n, s5_fR13, s513_a, s513_t, s513_n, q0, e1, e2, e4]; first | done | omega)))))
      all_goals rfl
    | true =>
      have y3 := y1 hR
      rw [← ho] at hR
      have hnm := (nmO_R (oN_R hR).1).1
      have h8 : K1 1 8 = i64 (cB 32 (nt n T m t).2.2.2.1) := g1.2.1.2.2.2.2.1 (of_decide_eq_true hnm).1
      rw [h8] at e2
      generalize hva : vN 1 9 (nmO n T m H W (nt n T m t)) = va at e4
      obtain ⟨⟨⟨r0, r6, r9, r4, r14⟩, s1, s2, s3, s4, s5, s6, s7⟩, ⟨n1', n2', n3'⟩, hc⟩ := hs4
      refine ⟨up (up J4 21 (H 1) (i32 va)) 15 6 (i32 (H 1 + 1)), upL K4 20 (H 1) (i64 (cB 32 (nt n T m t).2.2.2.1)), ?_, ?_, fun _ => ⟨⟨⟨?_, ?_, ?_, ?_, ?_⟩, ?_, ?_, ?_, ?_, ?_, ?_, ?_⟩, ⟨?_, ?_, ?_⟩, ?_⟩, ?_⟩
      · unfold fX8_readWriter
        repeat (first | (apply bd_eq; (focus (simp (disch := first | assumption | omega | rfl) only [i_rem, i_pred, i_addn1, i_lit, i_n1, i_add, i_mul, i_sub, i_le, i_lt, i_eq, i_ne1, n1_ne, n1_lt, n1_le, i_lt1, i_le1, bd_s, nar_bi, nar_0, nar_1, if_pos, if_neg, ↓reduceIte, reduceCtorEq, eq_self, if_true, if_false, not_true_eq_false, not_false_eq_true, tp_k, tp_fI, tp_fL, tp_pI, tp_pL, tp_z0, tp_z1, tp_fR0, tp0_a, tp0_t, tp0_n, tp_fR1, tp1_a, tp1_t, tp1_n, s5_k, s5_fI, s5_fL, s5_pI, s5_pL, s5_z0, s5_z1, s5_fR1, s51_a, s51_t, s51_n, s5_fR2, s52_a, s52_t, s52_n, s5_fR3, s53_a, s53_t, s53_n, s5_fR5, s55_a, s55_t, s55_n, s5_fR7, s57_a, s57_t, s57_n, s5_fR8, s58_a, s58_t, s58_n, s5_fR10, s510_a, s510_t, s510_n, s5_fR11, s511_a, s511_t, s511_n, s5_fR12, s512_a, s512_t, s512_n, s5_fR13, s513_a, s513_t, s513_n, q0, e1, e2, e4, r6, up_off]; first | done | (with_reducible rfl; done))); try dsimp only) | (apply it_p; (focus (first | assumption | (simp (disch := first | assumption | omega | rfl) only [i_rem, i_pred, i_addn1, i_lit, i_n1, i_add, i_mul, i_sub, i_le, i_lt, i_eq, i_ne1, n1_ne, n1_lt, n1_le, i_lt1, i_le1, bd_s, nar_bi, nar_0, nar_1, if_pos, if_neg, ↓reduceIte, reduceCtorEq, eq_self, if_true, if_false, not_true_eq_false, not_false_eq_true, tp_k, tp_fI, tp_fL, tp_pI, tp_pL, tp_z0, tp_z1, tp_fR0, tp0_a, tp0_t, tp0_n, tp_fR1, tp1_a, tp1_t, tp1_n, s5_k, s5_fI, s5_fL, s5_pI, s5_pL, s5_z0, s5_z1, s5_fR1, s51_a, s51_t, s51_n, s5_fR2, s52_a, s52_t, s52_n, s5_fR3, s53_a, s53_t, s53_n, s5_fR5, s55_a, s55_t, s55_n, s5_fR7, s57_a, s57_t, s57_n, s5_fR8, s58_a, s58_t, s58_n, s5_fR10, s510_a, s510_t, s510_n, s5_fR11, s511_a, s511_t, s511_n, s5_fR12, s512_a, s512_t, s512_n, s5_fR13, s513_a, s513_t, s513_n, q0, e1, e2, e4, r6, up_off]; first | done | omega)))) | (apply it_n; (focus (first | assumption | (simp (disch := first | assumption | omega | rfl) only [i_rem, i_pred, i_addn1, i_lit, i_n1, i_add, i_mul, i_sub, i_le, i_lt, i_eq, i_ne1, n1_ne, n1_lt, n1_le, i_lt1, i_le1, bd_s, nar_bi, nar_0, nar_1, if_pos, if_neg, ↓reduceIte, reduceCtorEq, eq_self, if_true, if_false, not_true_eq_false, not_false_eq_true, tp_k, tp_fI, tp_fL, tp_pI, tp_pL, tp_z0, tp_z1, tp_fR0, tp0_a, tp0_t, tp0_n, tp_fR1, tp1_a, tp1_t, tp1_n, s5_k, s5_fI, s5_fL, s5_pI, s5_pL, s5_z0, s5_z1, s5_fR1, s51_a, s51_t, s51_n, s5_fR2, s52_a, s52_t, s52_n, s5_fR3, s53_a, s53_t, s53_n, s5_fR5, s55_a, s55_t, s55_n, s5_fR7, s57_a, s57_t, s57_n, s5_fR8, s58_a, s58_t, s58_n, s5_fR10, s510_a, s510_t, s510_n, s5_fR11, s511_a, s511_t, s511_n, s5_fR12, s512_a, s512_t, s512_n, s5_fR13, s513_a, s513_t, s513_n, q0, e1, e2, e4, r6, up_off]; first | done | omega)))))
        all_goals rfl
      · exact CqR_s g4 (by simp (disch := omega) only [up_row]) (by simp (disch := omega) only [up_row]) (upL_row (by omega)) (upL_row (by omega))
      · rw [up_ofk (by omega), up_row (by omega), u1_ne (by omega), u1_ne (by omega)]; exact r0
      · rw [up_self, u1_ne (by omega), u1_eq]
      · rw [up_ofk (by omega), up_row (by omega), u1_ne (by omega), u1_ne (by omega)]; exact r9
      · rw [up_ofk (by omega), up_row (by omega), u1_ne (by omega), u1_ne (by omega)]; exact r4
      · rw [up_ofk (by omega), up_row (by omega), u1_ne (by omega), u1_ne (by omega)]; exact r14
      · intro b hb
        rw [u1_ne (by omega), u1_ne (by omega)] at hb
        rw [up_row (by omega), up_row (by omega), u1_ne (by omega), u1_ne (by omega)]; exact s1 b hb
      · intro b hb
        rw [u1_ne (by omega), u1_ne (by omega)] at hb
        rw [up_row (by omega), up_row (by omega), u1_ne (by omega), u1_ne (by omega)]; exact s2 b hb
      · intro b hb
        rw [u1_ne (by omega), u1_ne (by omega)] at hb
        rw [up_row (by omega), up_row (by omega), u1_ne (by omega), u1_ne (by omega)]; exact s3 b hb
      · intro b hb
        rw [u1_ne (by omega), u1_eq] at hb
        rw [up_row (by omega), up_at]
        by_cases hbe : b = H 1
        · rw [if_pos hbe, hbe, u1_eq]
        · rw [if_neg hbe, u1_ne (by omega), u1_ne (by omega)]; exact s4 b (by omega)
      · intro b hb
        rw [u1_ne (by omega), u1_ne (by omega)] at hb
        rw [up_row (by omega), up_row (by omega), u1_ne (by omega), u1_ne (by omega)]; exact s5 b hb
      · intro b hb
        rw [u1_ne (by omega), u1_ne (by omega)] at hb
        rw [up_row (by omega), up_row (by omega), lg_c (H := H) (by rw [u1_ne (by omega), u1_ne (by omega)])]; exact s6 b hb
      · intro b hb k hk
        rw [u1_ne (by omega), u1_ne (by omega)] at hb
        rw [lg_c (H := H) (by rw [u1_ne (by omega), u1_ne (by omega)])] at hk
        rw [up_row (by omega), up_row (by omega), sg_c (H := H) (by rw [u1_ne (by omega), u1_ne (by omega)])]; exact s7 b hb k hk
      · intro b hb
        rw [u1_ne (by omega), u1_ne (by omega)] at hb
        rw [upL_row (by omega), u1_ne (by omega)]; exact n1' b hb
      · intro b hb
        rw [u1_ne (by omega), u1_eq] at hb
        rw [upL_at]
        by_cases hbe : b = H 1
        · rw [if_pos hbe, hbe, u1_eq]
        · rw [if_neg hbe, u1_ne (by omega)]; exact n2' b (by omega)
      · intro b hb
        rw [u1_ne (by omega), u1_ne (by omega)] at hb
        rw [upL_row (by omega), u1_ne (by omega)]; exact n3' b hb
      · rw [up_ofk (by omega), up_row (by omega)]; exact hc
      · refine f.w.tr ⟨fun z z1 z2 => by simp (disch := omega) only [up_row], fun k hk => by simp (disch := omega) only [up_row], fun z z1 z2 => upL_row (by omega), ?_⟩
        rw [up_ofk (by omega), up_row (by omega)]
  · rw [if_neg c0]
    obtain ⟨J, e3, g1, g2⟩ := c_failR (N := N) (r := r) (k := 4) h (by omega)
    refine ⟨J, L, ?_, g1, fun z => (by cases z), g2.w⟩
    unfold fX8_readWriter
    repeat (first | (apply bd_eq; (focus (simp (disch := first | assumption | omega | rfl) only [i_rem, i_pred, i_addn1, i_lit, i_n1, i_add, i_mul, i_sub, i_le, i_lt, i_eq, i_ne1, n1_ne, n1_lt, n1_le, i_lt1, i_le1, bd_s, nar_bi, nar_0, nar_1, if_pos, if_neg, ↓reduceIte, reduceCtorEq, eq_self, if_true, if_false, not_true_eq_false, not_false_eq_true, tp_k, tp_fI, tp_fL, tp_pI, tp_pL, tp_z0, tp_z1, tp_fR0, tp0_a, tp0_t, tp0_n, tp_fR1, tp1_a, tp1_t, tp1_n, s5_k, s5_fI, s5_fL, s5_pI, s5_pL, s5_z0, s5_z1, s5_fR1, s51_a, s51_t, s51_n, s5_fR2, s52_a, s52_t, s52_n, s5_fR3, s53_a, s53_t, s53_n, s5_fR5, s55_a, s55_t, s55_n, s5_fR7, s57_a, s57_t, s57_n, s5_fR8, s58_a, s58_t, s58_n, s5_fR10, s510_a, s510_t, s510_n, s5_fR11, s511_a, s511_t, s511_n, s5_fR12, s512_a, s512_t, s512_n, s5_fR13, s513_a, s513_t, s513_n, q0, e3]; first | done | (with_reducible rfl; done))); try dsimp only) | (apply it_p; (focus (first | assumption | (simp (disch := first | assumption | omega | rfl) only [i_rem, i_pred, i_addn1, i_lit, i_n1, i_add, i_mul, i_sub, i_le, i_lt, i_eq, i_ne1, n1_ne, n1_lt, n1_le, i_lt1, i_le1, bd_s, nar_bi, nar_0, nar_1, if_pos, if_neg, ↓reduceIte, reduceCtorEq, eq_self, if_true, if_false, not_true_eq_false, not_false_eq_true, tp_k, tp_fI, tp_fL, tp_pI, tp_pL, tp_z0, tp_z1, tp_fR0, tp0_a, tp0_t, tp0_n, tp_fR1, tp1_a, tp1_t, tp1_n, s5_k, s5_fI, s5_fL, s5_pI, s5_pL, s5_z0, s5_z1, s5_fR1, s51_a, s51_t, s51_n, s5_fR2, s52_a, s52_t, s52_n, s5_fR3, s53_a, s53_t, s53_n, s5_fR5, s55_a, s55_t, s55_n, s5_fR7, s57_a, s57_t, s57_n, s5_fR8, s58_a, s58_t, s58_n, s5_fR10, s510_a, s510_t, s510_n, s5_fR11, s511_a, s511_t, s511_n, s5_fR12, s512_a, s512_t, s512_n, s5_fR13, s513_a, s513_t, s513_n, q0, e3]; first | done | omega)))) | (apply it_n; (focus (first | assumption | (simp (disch := first | assumption | omega | rfl) only [i_rem, i_pred, i_addn1, i_lit, i_n1, i_add, i_mul, i_sub, i_le, i_lt, i_eq, i_ne1, n1_ne, n1_lt, n1_le, i_lt1, i_le1, bd_s, nar_bi, nar_0, nar_1, if_pos, if_neg, ↓reduceIte, reduceCtorEq, eq_self, if_true, if_false, not_true_eq_false, not_false_eq_true, tp_k, tp_fI, tp_fL, tp_pI, tp_pL, tp_z0, tp_z1, tp_fR0, tp0_a, tp0_t, tp0_n, tp_fR1, tp1_a, tp1_t, tp1_n, s5_k, s5_fI, s5_fL, s5_pI, s5_pL, s5_z0, s5_z1, s5_fR1, s51_a, s51_t, s51_n, s5_fR2, s52_a, s52_t, s52_n, s5_fR3, s53_a, s53_t, s53_n, s5_fR5, s55_a, s55_t, s55_n, s5_fR7, s57_a, s57_t, s57_n, s5_fR8, s58_a, s58_t, s58_n, s5_fR10, s510_a, s510_t, s510_n, s5_fR11, s511_a, s511_t, s511_n, s5_fR12, s512_a, s512_t, s512_n, s5_fR13, s513_a, s513_t, s513_n, q0, e3]; first | done | omega)))))
    all_goals rfl
/-! lapse -/
def lpO (n : Nat) (T : Nat → Nat) (m : Nat) (c : Bool) (t : Tok) : Oc := if c then .inl (3, t.2.1) else oN n T m 1 30 (.inr (nt n T m t))
def lpH (n : Nat) (T : Nat → Nat) (m : Nat) (H : Nat → Nat) (t : Tok) : Nat → Nat := u1 H 4 (vN 1 30 (.inr (nt n T m t)))
theorem lp_ok (hO : hOk H) (hn : nOk H W) (hR : isR (lpO n T m c t) = true) : hOk (lpH n T m H t) ∧ nOk (lpH n T m H t) W ∧ c = false := by
  have o0 := hO.1; have o1 := hO.2.1; have o2 := hO.2.2.1; have o3 := hO.2.2.2.1; have o4 := hO.2.2.2.2.1; have o5 := hO.2.2.2.2.2.1
  obtain ⟨_, _, _, _, _, _, p1, p2, p3, p4⟩ := hO
  unfold lpO at hR
  cases c with
  | true => cases hR
  | false =>
    obtain ⟨z1, z2, z3⟩ := oN_R (show isR (oN n T m 1 30 (.inr (nt n T m t))) = true from hR)
    unfold lpH
    generalize vN 1 30 (.inr (nt n T m t)) = va at z2 z3
    have ek : ∀ k, k ≠ 4 → u1 H 4 va k = H k := fun k y1 => by rw [u1_ne y1]
    refine ⟨⟨by rw [ek 0 (by omega)]; exact o0, by rw [ek 1 (by omega)]; exact o1, by rw [ek 2 (by omega)]; exact o2, by rw [ek 3 (by omega)]; exact o3, by rw [u1_eq]; exact z2, by rw [u1_eq]; exact z3, fun b hb => ?_, fun k hk => ?_, fun k hk => ?_, fun k hk => ?_⟩, ⟨fun b hb => ?_, fun k hk => ?_, fun k hk => ?_⟩, rfl⟩
    · rw [ek 0 (by omega)] at hb
      rw [ek (5 + b) (by omega), ek (11 + b) (by omega)]; exact p1 b hb
    · rw [ek 3 (by omega)] at hk
      rw [ek (17 + k) (by omega)]; exact p2 k hk
    · rw [ek 1 (by omega)] at hk
      rw [ek (25 + k) (by omega)]; exact p3 k hk
    · rw [ek 2 (by omega)] at hk
      rw [ek (29 + k) (by omega)]; exact p4 k hk
    · rw [ek 0 (by omega)] at hb; exact hn.1 b hb
    · rw [ek 1 (by omega)] at hk; exact hn.2.1 k hk
    · rw [ek 2 (by omega)] at hk; exact hn.2.2 k hk
theorem c_readLapse (hN : 1200 < N) (hs : ShR H W c I L) (h : CqR n T m (.inr t) I L) : ∃ J K, fX8_readLapse N 15 1 (mk I L r) = some ((), mk J K r) ∧ CqR n T m (lpO n T m c t) J K ∧ (isR (lpO n T m c t) = true → ShR (lpH n T m H t) W true J K) ∧ FrW I J L K := by
  have q0 : I 15 15 = bi c := hs.2.2
  unfold lpO
  cases c with
  | false =>
    simp only [Bool.false_eq_true, if_false]
    have q0' : I 15 15 = i32 0 := q0
    obtain ⟨J1, K1, e1, g1, f1⟩ := c_adv (N := N) (r := r) hN h
    obtain ⟨J4, K4, e4, g4, f4⟩ := c_takeNum (N := N) (r := r) (a := 1) (b := 30) hN g1 (by omega) (by omega)
    have f := f1.tr f4
    have hs4 := ShR_t hs f
    obtain ⟨y1, y2⟩ := fault_0 g4
    unfold lpH
    generalize ho : oN n T m 1 30 (.inr (nt n T m t)) = oo at g4 y1 y2
    cases hR : isR oo with
    | false =>
      have y3 := y2 hR
      refine ⟨J4, K4, ?_, g4, fun z => (by cases z), f.w⟩
      unfold fX8_readLapse
      repeat (first | (apply bd_eq; (focus (simp (disch := first | assumption | omega | rfl) only [i_rem, i_pred, i_addn1, i_lit, i_n1, i_add, i_mul, i_sub, i_le, i_lt, i_eq, i_ne1, n1_ne, n1_lt, n1_le, i_lt1, i_le1, bd_s, nar_bi, nar_0, nar_1, if_pos, if_neg, ↓reduceIte, reduceCtorEq, eq_self, if_true, if_false, not_true_eq_false, not_false_eq_true, tp_k, tp_fI, tp_fL, tp_pI, tp_pL, tp_z0, tp_z1, tp_fR0, tp0_a, tp0_t, tp0_n, tp_fR1, tp1_a, tp1_t, tp1_n, s5_k, s5_fI, s5_fL, s5_pI, s5_pL, s5_z0, s5_z1, s5_fR1, s51_a, s51_t, s51_n, s5_fR2, s52_a, s52_t, s52_n, s5_fR3, s53_a, s53_t, s53_n, s5_fR5, s55_a, s55_t, s55_n, s5_fR7, s57_a, s57_t, s57_n, s5_fR8, s58_a, s58_t, s58_n, s5_fR10, s510_a, s510_t, s510_n, s5_fR11, s511_a, s511_t, s511_n, s5_fR12, s512_a, s512_t, s512_n, s5_fR13, s513_a, s513_t, s513_n, q0', e1, e4]; first | done | (with_reducible rfl; done))); try dsimp only) | (apply it_p; (focus (first | assumption | (simp (disch := first | assumption | omega | rfl) only [i_rem, i_pred, i_addn1, i_lit, i_n1, i_add, i_mul, i_sub, i_le, i_lt, i_eq, i_ne1, n1_ne, n1_lt, n1_le, i_lt1, i_le1, bd_s, nar_bi, nar_0, nar_1, if_pos, if_neg, ↓reduceIte, reduceCtorEq, eq_self, if_true, if_false, not_true_eq_false, not_false_eq_true, tp_k, tp_fI, tp_fL, tp_pI, tp_pL, tp_z0, tp_z1, tp_fR0, tp0_a, tp0_t, tp0_n, tp_fR1, tp1_a, tp1_t, tp1_n, s5_k, s5_fI, s5_fL, s5_pI, s5_pL, s5_z0, s5_z1, s5_fR1, s51_a, s51_t, s51_n, s5_fR2, s52_a, s52_t, s52_n, s5_fR3, s53_a, s53_t, s53_n, s5_fR5, s55_a, s55_t, s55_n, s5_fR7, s57_a, s57_t, s57_n, s5_fR8, s58_a, s58_t, s58_n, s5_fR10, s510_a, s510_t, s510_n, s5_fR11, s511_a, s511_t, s511_n, s5_fR12, s512_a, s512_t, s512_n, s5_fR13, s513_a, s513_t, s513_n, q0', e1, e4]; first | done | omega)))) | (apply it_n; (focus (first | assumption | (simp (disch := first | assumption | omega | rfl) only [i_rem, i_pred, i_addn1, i_lit, i_n1, i_add, i_mul, i_sub, i_le, i_lt, i_eq, i_ne1, n1_ne, n1_lt, n1_le, i_lt1, i_le1, bd_s, nar_bi, nar_0, nar_1, if_pos, if_neg, ↓reduceIte, reduceCtorEq, eq_self, if_true, if_false, not_true_eq_false, not_false_eq_true, tp_k, tp_fI, tp_fL, tp_pI, tp_pL, tp_z0, tp_z1, tp_fR0, tp0_a, tp0_t, tp0_n, tp_fR1, tp1_a, tp1_t, tp1_n, s5_k, s5_fI, s5_fL, s5_pI, s5_pL, s5_z0, s5_z1, s5_fR1, s51_a, s51_t, s51_n, s5_fR2, s52_a, s52_t, s52_n, s5_fR3, s53_a, s53_t, s53_n, s5_fR5, s55_a, s55_t, s55_n, s5_fR7, s57_a, s57_t, s57_n, s5_fR8, s58_a, s58_t, s58_n, s5_fR10, s510_a, s510_t, s510_n, s5_fR11, s511_a, s511_t, s511_n, s5_fR12, s512_a, s512_t, s512_n, s5_fR13, s513_a, s513_t, s513_n, q0', e1, e4]; first | done | omega)))))
      all_goals rfl
    | true =>
      have y3 := y1 hR
      generalize hva : vN 1 30 (.inr (nt n T m t)) = va at e4
      obtain ⟨⟨⟨r0, r6, r9, r4, r14⟩, s1, s2, s3, s4, s5, s6, s7⟩, ⟨n1', n2', n3'⟩, hc⟩ := hs4
      refine ⟨up (up J4 15 14 (i32 va)) 15 15 (i32 1), K4, ?_, ?_, fun _ => ⟨⟨⟨?_, ?_, ?_, ?_, ?_⟩, ?_, ?_, ?_, ?_, ?_, ?_, ?_⟩, ⟨?_, ?_, ?_⟩, up_self⟩, ?_⟩
      · unfold fX8_readLapse
        repeat (first | (apply bd_eq; (focus (simp (disch := first | assumption | omega | rfl) only [i_rem, i_pred, i_addn1, i_lit, i_n1, i_add, i_mul, i_sub, i_le, i_lt, i_eq, i_ne1, n1_ne, n1_lt, n1_le, i_lt1, i_le1, bd_s, nar_bi, nar_0, nar_1, if_pos, if_neg, ↓reduceIte, reduceCtorEq, eq_self, if_true, if_false, not_true_eq_false, not_false_eq_true, tp_k, tp_fI, tp_fL, tp_pI, tp_pL, tp_z0, tp_z1, tp_fR0, tp0_a, tp0_t, tp0_n, tp_fR1, tp1_a, tp1_t, tp1_n, s5_k, s5_fI, s5_fL, s5_pI, s5_pL, s5_z0, s5_z1, s5_fR1, s51_a, s51_t, s51_n, s5_fR2, s52_a, s52_t, s52_n, s5_fR3, s53_a, s53_t, s53_n, s5_fR5, s55_a, s55_t, s55_n, s5_fR7, s57_a, s57_t, s57_n, s5_fR8, s58_a, s58_t, s58_n, s5_fR10, s510_a, s510_t, s510_n, s5_fR11, s511_a, s511_t, s511_n, s5_fR12, s512_a, s512_t, s512_n, s5_fR13, s513_a, s513_t, s513_n, q0', e1, e4]; first | done | (with_reducible rfl; done))); try dsimp only) | (apply it_p; (focus (first | assumption | (simp (disch := first | assumption | omega | rfl) only [i_rem, i_pred, i_addn1, i_lit, i_n1, i_add, i_mul, i_sub, i_le, i_lt, i_eq, i_ne1, n1_ne, n1_lt, n1_le, i_lt1, i_le1, bd_s, nar_bi, nar_0, nar_1, if_pos, if_neg, ↓reduceIte, reduceCtorEq, eq_self, if_true, if_false, not_true_eq_false, not_false_eq_true, tp_k, tp_fI, tp_fL, tp_pI, tp_pL, tp_z0, tp_z1, tp_fR0, tp0_a, tp0_t, tp0_n, tp_fR1, tp1_a, tp1_t, tp1_n, s5_k, s5_fI, s5_fL, s5_pI, s5_pL, s5_z0, s5_z1, s5_fR1, s51_a, s51_t, s51_n, s5_fR2, s52_a, s52_t, s52_n, s5_fR3, s53_a, s53_t, s53_n, s5_fR5, s55_a, s55_t, s55_n, s5_fR7, s57_a, s57_t, s57_n, s5_fR8, s58_a, s58_t, s58_n, s5_fR10, s510_a, s510_t, s510_n, s5_fR11, s511_a, s511_t, s511_n, s5_fR12, s512_a, s512_t, s512_n, s5_fR13, s513_a, s513_t, s513_n, q0', e1, e4]; first | done | omega)))) | (apply it_n; (focus (first | assumption | (simp (disch := first | assumption | omega | rfl) only [i_rem, i_pred, i_addn1, i_lit, i_n1, i_add, i_mul, i_sub, i_le, i_lt, i_eq, i_ne1, n1_ne, n1_lt, n1_le, i_lt1, i_le1, bd_s, nar_bi, nar_0, nar_1, if_pos, if_neg, ↓reduceIte, reduceCtorEq, eq_self, if_true, if_false, not_true_eq_false, not_false_eq_true, tp_k, tp_fI, tp_fL, tp_pI, tp_pL, tp_z0, tp_z1, tp_fR0, tp0_a, tp0_t, tp0_n, tp_fR1, tp1_a, tp1_t, tp1_n, s5_k, s5_fI, s5_fL, s5_pI, s5_pL, s5_z0, s5_z1, s5_fR1, s51_a, s51_t, s51_n, s5_fR2, s52_a, s52_t, s52_n, s5_fR3, s53_a, s53_t, s53_n, s5_fR5, s55_a, s55_t, s55_n, s5_fR7, s57_a, s57_t, s57_n, s5_fR8, s58_a, s58_t, s58_n, s5_fR10, s510_a, s510_t, s510_n, s5_fR11, s511_a, s511_t, s511_n, s5_fR12, s512_a, s512_t, s512_n, s5_fR13, s513_a, s513_t, s513_n, q0', e1, e4]; first | done | omega)))))
        all_goals rfl
      · exact CqR_s g4 (by simp (disch := omega) only [up_row]) (by simp (disch := omega) only [up_row]) rfl rfl
      · rw [up_ofk (by omega), up_ofk (by omega), u1_ne (by omega)]; exact r0
      · rw [up_ofk (by omega), up_ofk (by omega), u1_ne (by omega)]; exact r6
      · rw [up_ofk (by omega), up_ofk (by omega), u1_ne (by omega)]; exact r9
      · rw [up_ofk (by omega), up_ofk (by omega), u1_ne (by omega)]; exact r4
      · rw [up_ofk (by omega), up_self, u1_eq]
      · intro b hb
        rw [u1_ne (by omega)] at hb
        rw [up_row (by omega), up_row (by omega), u1_ne (by omega)]; exact s1 b hb
      · intro b hb
        rw [u1_ne (by omega)] at hb
        rw [up_row (by omega), up_row (by omega), u1_ne (by omega)]; exact s2 b hb
      · intro b hb
        rw [u1_ne (by omega)] at hb
        rw [up_row (by omega), up_row (by omega), u1_ne (by omega)]; exact s3 b hb
      · intro b hb
        rw [u1_ne (by omega)] at hb
        rw [up_row (by omega), up_row (by omega), u1_ne (by omega)]; exact s4 b hb
      · intro b hb
        rw [u1_ne (by omega)] at hb
        rw [up_row (by omega), up_row (by omega), u1_ne (by omega)]; exact s5 b hb
      · intro b hb
        rw [u1_ne (by omega)] at hb
        rw [up_row (by omega), up_row (by omega), lg_c (H := H) (u1_ne (by omega))]; exact s6 b hb
      · intro b hb k hk
        rw [u1_ne (by omega)] at hb
        rw [lg_c (H := H) (u1_ne (by omega))] at hk
        rw [up_row (by omega), up_row (by omega), sg_c (H := H) (u1_ne (by omega))]; exact s7 b hb k hk
      · intro b hb
        rw [u1_ne (by omega)] at hb; exact n1' b hb
      · intro b hb
        rw [u1_ne (by omega)] at hb; exact n2' b hb
      · intro b hb
        rw [u1_ne (by omega)] at hb; exact n3' b hb
      · refine f.w.tr ⟨fun z z1 z2 => by simp (disch := omega) only [up_row], fun k hk => by simp (disch := omega) only [up_row], fun z z1 z2 => rfl, ?_⟩
        rw [up_ofk (by omega), up_ofk (by omega)]
  | true =>
    simp only [if_true]
    have q0' : I 15 15 = i32 1 := q0
    obtain ⟨J, e3, g1, g2⟩ := c_failR (N := N) (r := r) (k := 3) h (by omega)
    refine ⟨J, L, ?_, g1, fun z => (by cases z), g2.w⟩
    unfold fX8_readLapse
    repeat (first | (apply bd_eq; (focus (simp (disch := first | assumption | omega | rfl) only [i_rem, i_pred, i_addn1, i_lit, i_n1, i_add, i_mul, i_sub, i_le, i_lt, i_eq, i_ne1, n1_ne, n1_lt, n1_le, i_lt1, i_le1, bd_s, nar_bi, nar_0, nar_1, if_pos, if_neg, ↓reduceIte, reduceCtorEq, eq_self, if_true, if_false, not_true_eq_false, not_false_eq_true, tp_k, tp_fI, tp_fL, tp_pI, tp_pL, tp_z0, tp_z1, tp_fR0, tp0_a, tp0_t, tp0_n, tp_fR1, tp1_a, tp1_t, tp1_n, s5_k, s5_fI, s5_fL, s5_pI, s5_pL, s5_z0, s5_z1, s5_fR1, s51_a, s51_t, s51_n, s5_fR2, s52_a, s52_t, s52_n, s5_fR3, s53_a, s53_t, s53_n, s5_fR5, s55_a, s55_t, s55_n, s5_fR7, s57_a, s57_t, s57_n, s5_fR8, s58_a, s58_t, s58_n, s5_fR10, s510_a, s510_t, s510_n, s5_fR11, s511_a, s511_t, s511_n, s5_fR12, s512_a, s512_t, s512_n, s5_fR13, s513_a, s513_t, s513_n, q0', e3]; first | done | (with_reducible rfl; done))); try dsimp only) | (apply it_p; (focus (first | assumption | (simp (disch := first | assumption | omega | rfl) only [i_rem, i_pred, i_addn1, i_lit, i_n1, i_add, i_mul, i_sub, i_le, i_lt, i_eq, i_ne1, n1_ne, n1_lt, n1_le, i_lt1, i_le1, bd_s, nar_bi, nar_0, nar_1, if_pos, if_neg, ↓reduceIte, reduceCtorEq, eq_self, if_true, if_false, not_true_eq_false, not_false_eq_true, tp_k, tp_fI, tp_fL, tp_pI, tp_pL, tp_z0, tp_z1, tp_fR0, tp0_a, tp0_t, tp0_n, tp_fR1, tp1_a, tp1_t, tp1_n, s5_k, s5_fI, s5_fL, s5_pI, s5_pL, s5_z0, s5_z1, s5_fR1, s51_a, s51_t, s51_n, s5_fR2, s52_a, s52_t, s52_n, s5_fR3, s53_a, s53_t, s53_n, s5_fR5, s55_a, s55_t, s55_n, s5_fR7, s57_a, s57_t, s57_n, s5_fR8, s58_a, s58_t, s58_n, s5_fR10, s510_a, s510_t, s510_n, s5_fR11, s511_a, s511_t, s511_n, s5_fR12, s512_a, s512_t, s512_n, s5_fR13, s513_a, s513_t, s513_n, q0', e3]; first | done | omega)))) | (apply it_n; (focus (first | assumption | (simp (disch := first | assumption | omega | rfl) only [i_rem, i_pred, i_addn1, i_lit, i_n1, i_add, i_mul, i_sub, i_le, i_lt, i_eq, i_ne1, n1_ne, n1_lt, n1_le, i_lt1, i_le1, bd_s, nar_bi, nar_0, nar_1, if_pos, if_neg, ↓reduceIte, reduceCtorEq, eq_self, if_true, if_false, not_true_eq_false, not_false_eq_true, tp_k, tp_fI, tp_fL, tp_pI, tp_pL, tp_z0, tp_z1, tp_fR0, tp0_a, tp0_t, tp0_n, tp_fR1, tp1_a, tp1_t, tp1_n, s5_k, s5_fI, s5_fL, s5_pI, s5_pL, s5_z0, s5_z1, s5_fR1, s51_a, s51_t, s51_n, s5_fR2, s52_a, s52_t, s52_n, s5_fR3, s53_a, s53_t, s53_n, s5_fR5, s55_a, s55_t, s55_n, s5_fR7, s57_a, s57_t, s57_n, s5_fR8, s58_a, s58_t, s58_n, s5_fR10, s510_a, s510_t, s510_n, s5_fR11, s511_a, s511_t, s511_n, s5_fR12, s512_a, s512_t, s512_n, s5_fR13, s513_a, s513_t, s513_n, q0', e3]; first | done | omega)))))
    all_goals rfl
end
