section
variable {I J : Nat → Nat → Int32} {L K : Nat → Nat → Int64} {r : Bool} {N : Nat} {T : Nat → Nat} {n m : Nat} {t : Tok} {e : Nat × Nat} {o : Oc} {H : Nat → Nat} {W : Nat → List Nat} {f0 : Int32}
abbrev seP (n : Nat) (T : Nat → Nat) (H : Nat → Nat) (W : Nat → List Nat) : Ps := pCo n T 200 (pOn n T 200 H W 8) 0 (nxT T n 200 0)
/-- all of it: nothing may follow -/
def seR (n : Nat) (T : Nat → Nat) (H : Nat → Nat) (W : Nat → List Nat) : Ps := match seP n T H W with
  | .inl e => .inl e
  | .inr x => if x.2.1.1 = 0 then .inr x else .inl (1, x.2.1.2.1)
theorem se_ok (hO : hOk H) (h9 : n ≤ 940) (hT : ∀ k, k < n → T k < 256) : psG n H 0 (seR n T H W) := by
  have := pCo_ok (m := 200) (k := 0) h9 hT (pOn_ok (m := 200) (W := W) hO h9 hT 8) (nx_ok (m := 200) h9 (Nat.zero_le _) hT)
  unfold seR
  cases hx : seP n T H W with
  | inl e => have h2 : psG n H 0 (.inl e) := by rw [← hx]; exact this
             exact h2
  | inr x =>
    have h2 : psG n H 0 (.inr x) := by rw [← hx]; exact this
    dsimp only
    split
    · exact h2
    · exact ⟨by dsimp only; omega, by dsimp only; omega⟩
theorem c_seFrom (hN : 1200 < N) (hO : hOk H) (hn : nOk H W) (hs : RS 4 H I) (hw : NS 4 H W L) (h : CT n T f0 I L) (hT : ∀ k, k < n → T k < 256) : ∃ J K, fX7_readFrom N 119 1 (mk I L r) = some ((), mk J K r) ∧ CpO n T 200 [] (seR n T H W) J K ∧ (∀ z, z ≠ 1 → (z < 119 ∨ 124 ≤ z) → J z = I z) ∧ ∀ z, z ≠ 1 → K z = L z := by
  have h9 := h.2.1
  have hse : isSe 119 = true := by decide
  have k9 : ∀ I L, mK (mk I L r) 119 = 8 := fun I L => se_k hse
  have ct : CT n T f0 (up (up I 119 5 (i32 0)) 119 6 (i32 0)) L := CT_of (by rw [up_row (by omega), up_row (by omega)]) (by rw [up_row (by omega), up_row (by omega)]) rfl h
  have cl : fX7_clear N 119 (mk I L r) = some ((), mk (up (up I 119 5 (i32 0)) 119 6 (i32 0)) L r) := by
    unfold fX7_clear
    simp (disch := first | assumption | omega | rfl) only [i_rem, i_pred, i_addn1, i_lit, i_n1, i_add, i_mul, i_sub, i_le, i_lt, i_eq, i_ne1, n1_ne, n1_lt, n1_le, i_lt1, i_le1, bd_s, nar_bi, nar_0, nar_1, if_pos, if_neg, ↓reduceIte, reduceCtorEq, eq_self, if_true, if_false, not_true_eq_false, not_false_eq_true, se_k, se_fI, se_fL, se_pI, se_pL, se_z0, se_z1, se_fR0, se_fR1, se1_a, se1_t, se1_n, se_fR2, se2_a, se2_t, se2_n, se_fR3, se3_a, se3_t, se3_n, se_fR4, se4_a, se4_t, se4_n]
  obtain ⟨J1, K1, e1, g1, g2, g3⟩ := c_start (N := N) (r := r) (m := 200) hN ct hT (by omega)
  have cs : CS 119 [] J1 := by
    refine ⟨by rw [g2 119 (by omega), up_ofk (by omega), up_self]; rfl, Nat.zero_le _, fun i hi => absurd hi (Nat.not_lt_zero _)⟩
  have k6 : J1 119 6 = i32 0 := by rw [g2 119 (by omega), up_self]
  have rs1 : RS 4 H J1 := RS_of (fun q z1 z2 => by rw [g2 q (by omega), up_row (by omega), up_row (by omega)]) hs
  have ns1 : NS 4 H W K1 := NS_of (fun q z1 z2 => g3 q (by omega)) hw
  have rd := c_rd (r := r) (m := 200) hN hO hn h9 hT 8 (by omega) 39 (by omega)
  obtain ⟨J2, K2, e2, g4, g5⟩ := c_cond (N := N) hN h9 hT rd (pOn_ok (m := 200) (W := W) hO h9 hT 8) rs1 ns1 cs k6 (by omega) (by show 0 ≤ _; omega) g1
  have e2' : fX7_rd N 40 0 119 1 (i32 1) (mk J1 K1 r) = some ((), mk J2 K2 r) := by rw [fX7_rd, if_pos rfl]; exact e2
  have fr : ∀ z, z ≠ 1 → (z < 119 ∨ 124 ≤ z) → J2 z = I z := fun z z1 z2 => by rw [g5.1 z z1 z2, g2 z z1, up_row (by omega), up_row (by omega)]
  have frL : ∀ z, z ≠ 1 → K2 z = L z := fun z z1 => by rw [g5.2.2 z z1, g3 z z1]
  unfold seR
  cases hx : seP n T H W with
  | inl e =>
    have g4 : CpO n T 200 [] (.inl e) J2 K2 := by rw [← hx]; exact g4
    dsimp only
    have fl := c_failL (N := N) (r := r) (v := i32 1) g4.1
    refine ⟨J2, K2, ?_, g4, fr, frL⟩
    unfold fX7_readFrom
    by_cases c5 : J2 1 5 = i32 0
    · repeat (first | (with_reducible apply bd_eq; (focus (simp (disch := first | assumption | omega | rfl) only [i_rem, i_pred, i_addn1, i_lit, i_n1, i_add, i_mul, i_sub, i_le, i_lt, i_eq, i_ne1, n1_ne, n1_lt, n1_le, i_lt1, i_le1, bd_s, nar_bi, nar_0, nar_1, if_pos, if_neg, ↓reduceIte, reduceCtorEq, eq_self, if_true, if_false, not_true_eq_false, not_false_eq_true, tp_k, tp_fI, tp_fL, tp_pI, tp_pL, tp_z0, tp_z1, tp_fR0, tp0_a, tp0_t, tp0_n, tp_fR1, tp1_a, tp1_t, tp1_n, k9, cl, e1, e2', c5]; first | done | (with_reducible rfl; done))); try dsimp only) | (with_reducible apply it_p; (focus (first | assumption | (simp (disch := first | assumption | omega | rfl) only [i_rem, i_pred, i_addn1, i_lit, i_n1, i_add, i_mul, i_sub, i_le, i_lt, i_eq, i_ne1, n1_ne, n1_lt, n1_le, i_lt1, i_le1, bd_s, nar_bi, nar_0, nar_1, if_pos, if_neg, ↓reduceIte, reduceCtorEq, eq_self, if_true, if_false, not_true_eq_false, not_false_eq_true, tp_k, tp_fI, tp_fL, tp_pI, tp_pL, tp_z0, tp_z1, tp_fR0, tp0_a, tp0_t, tp0_n, tp_fR1, tp1_a, tp1_t, tp1_n, k9, cl, e1, e2', c5]; first | done | omega)))) | (with_reducible apply it_n; (focus (first | assumption | (simp (disch := first | assumption | omega | rfl) only [i_rem, i_pred, i_addn1, i_lit, i_n1, i_add, i_mul, i_sub, i_le, i_lt, i_eq, i_ne1, n1_ne, n1_lt, n1_le, i_lt1, i_le1, bd_s, nar_bi, nar_0, nar_1, if_pos, if_neg, ↓reduceIte, reduceCtorEq, eq_self, if_true, if_false, not_true_eq_false, not_false_eq_true, tp_k, tp_fI, tp_fL, tp_pI, tp_pL, tp_z0, tp_z1, tp_fR0, tp0_a, tp0_t, tp0_n, tp_fR1, tp1_a, tp1_t, tp1_n, k9, cl, e1, e2', c5]; first | done | omega)))))
      all_goals rfl
    · repeat (first | (with_reducible apply bd_eq; (focus (simp (disch := first | assumption | omega | rfl) only [i_rem, i_pred, i_addn1, i_lit, i_n1, i_add, i_mul, i_sub, i_le, i_lt, i_eq, i_ne1, n1_ne, n1_lt, n1_le, i_lt1, i_le1, bd_s, nar_bi, nar_0, nar_1, if_pos, if_neg, ↓reduceIte, reduceCtorEq, eq_self, if_true, if_false, not_true_eq_false, not_false_eq_true, tp_k, tp_fI, tp_fL, tp_pI, tp_pL, tp_z0, tp_z1, tp_fR0, tp0_a, tp0_t, tp0_n, tp_fR1, tp1_a, tp1_t, tp1_n, k9, cl, e1, e2', c5, fl]; first | done | (with_reducible rfl; done))); try dsimp only) | (with_reducible apply it_p; (focus (first | assumption | (simp (disch := first | assumption | omega | rfl) only [i_rem, i_pred, i_addn1, i_lit, i_n1, i_add, i_mul, i_sub, i_le, i_lt, i_eq, i_ne1, n1_ne, n1_lt, n1_le, i_lt1, i_le1, bd_s, nar_bi, nar_0, nar_1, if_pos, if_neg, ↓reduceIte, reduceCtorEq, eq_self, if_true, if_false, not_true_eq_false, not_false_eq_true, tp_k, tp_fI, tp_fL, tp_pI, tp_pL, tp_z0, tp_z1, tp_fR0, tp0_a, tp0_t, tp0_n, tp_fR1, tp1_a, tp1_t, tp1_n, k9, cl, e1, e2', c5, fl]; first | done | omega)))) | (with_reducible apply it_n; (focus (first | assumption | (simp (disch := first | assumption | omega | rfl) only [i_rem, i_pred, i_addn1, i_lit, i_n1, i_add, i_mul, i_sub, i_le, i_lt, i_eq, i_ne1, n1_ne, n1_lt, n1_le, i_lt1, i_le1, bd_s, nar_bi, nar_0, nar_1, if_pos, if_neg, ↓reduceIte, reduceCtorEq, eq_self, if_true, if_false, not_true_eq_false, not_false_eq_true, tp_k, tp_fI, tp_fL, tp_pI, tp_pL, tp_z0, tp_z1, tp_fR0, tp0_a, tp0_t, tp0_n, tp_fR1, tp1_a, tp1_t, tp1_n, k9, cl, e1, e2', c5, fl]; first | done | omega)))))
      all_goals rfl
  | inr x =>
    have g4 : CpO n T 200 [] (.inr x) J2 K2 := by rw [← hx]; exact g4
    dsimp only
    obtain ⟨g6, g7, g8⟩ := g4
    have x5 : J2 1 5 = i32 x.2.1.1 := g6.2.1.1
    have t4 : x.2.1.1 ≤ 4 := g6.2.2.2.1
    by_cases c0 : x.2.1.1 = 0
    · rw [if_pos c0]
      rw [c0] at x5
      refine ⟨J2, K2, ?_, ⟨g6, g7, g8⟩, fr, frL⟩
      unfold fX7_readFrom
      repeat (first | (with_reducible apply bd_eq; (focus (simp (disch := first | assumption | omega | rfl) only [i_rem, i_pred, i_addn1, i_lit, i_n1, i_add, i_mul, i_sub, i_le, i_lt, i_eq, i_ne1, n1_ne, n1_lt, n1_le, i_lt1, i_le1, bd_s, nar_bi, nar_0, nar_1, if_pos, if_neg, ↓reduceIte, reduceCtorEq, eq_self, if_true, if_false, not_true_eq_false, not_false_eq_true, tp_k, tp_fI, tp_fL, tp_pI, tp_pL, tp_z0, tp_z1, tp_fR0, tp0_a, tp0_t, tp0_n, tp_fR1, tp1_a, tp1_t, tp1_n, k9, cl, e1, e2', x5]; first | done | (with_reducible rfl; done))); try dsimp only) | (with_reducible apply it_p; (focus (first | assumption | (simp (disch := first | assumption | omega | rfl) only [i_rem, i_pred, i_addn1, i_lit, i_n1, i_add, i_mul, i_sub, i_le, i_lt, i_eq, i_ne1, n1_ne, n1_lt, n1_le, i_lt1, i_le1, bd_s, nar_bi, nar_0, nar_1, if_pos, if_neg, ↓reduceIte, reduceCtorEq, eq_self, if_true, if_false, not_true_eq_false, not_false_eq_true, tp_k, tp_fI, tp_fL, tp_pI, tp_pL, tp_z0, tp_z1, tp_fR0, tp0_a, tp0_t, tp0_n, tp_fR1, tp1_a, tp1_t, tp1_n, k9, cl, e1, e2', x5]; first | done | omega)))) | (with_reducible apply it_n; (focus (first | assumption | (simp (disch := first | assumption | omega | rfl) only [i_rem, i_pred, i_addn1, i_lit, i_n1, i_add, i_mul, i_sub, i_le, i_lt, i_eq, i_ne1, n1_ne, n1_lt, n1_le, i_lt1, i_le1, bd_s, nar_bi, nar_0, nar_1, if_pos, if_neg, ↓reduceIte, reduceCtorEq, eq_self, if_true, if_false, not_true_eq_false, not_false_eq_true, tp_k, tp_fI, tp_fL, tp_pI, tp_pL, tp_z0, tp_z1, tp_fR0, tp0_a, tp0_t, tp0_n, tp_fR1, tp1_a, tp1_t, tp1_n, k9, cl, e1, e2', x5]; first | done | omega)))))
      all_goals rfl
    · rw [if_neg c0]
      have x5' : ¬ J2 1 5 = i32 0 := by rw [x5, i_eq (by omega) (by omega)]; exact c0
      obtain ⟨J3, e3, b1, b2⟩ := c_failR (N := N) (r := r) (k := 1) g6 (by omega)
      refine ⟨J3, K2, ?_, ⟨b1, _, g7.2.1, by rw [b2.1 119 (by omega)]; exact g7.1⟩, fun z z1 z2 => by rw [b2.1 z z1]; exact fr z z1 z2, frL⟩
      unfold fX7_readFrom
      repeat (first | (with_reducible apply bd_eq; (focus (simp (disch := first | assumption | omega | rfl) only [i_rem, i_pred, i_addn1, i_lit, i_n1, i_add, i_mul, i_sub, i_le, i_lt, i_eq, i_ne1, n1_ne, n1_lt, n1_le, i_lt1, i_le1, bd_s, nar_bi, nar_0, nar_1, if_pos, if_neg, ↓reduceIte, reduceCtorEq, eq_self, if_true, if_false, not_true_eq_false, not_false_eq_true, tp_k, tp_fI, tp_fL, tp_pI, tp_pL, tp_z0, tp_z1, tp_fR0, tp0_a, tp0_t, tp0_n, tp_fR1, tp1_a, tp1_t, tp1_n, k9, cl, e1, e2', x5', e3]; first | done | (with_reducible rfl; done))); try dsimp only) | (with_reducible apply it_p; (focus (first | assumption | (simp (disch := first | assumption | omega | rfl) only [i_rem, i_pred, i_addn1, i_lit, i_n1, i_add, i_mul, i_sub, i_le, i_lt, i_eq, i_ne1, n1_ne, n1_lt, n1_le, i_lt1, i_le1, bd_s, nar_bi, nar_0, nar_1, if_pos, if_neg, ↓reduceIte, reduceCtorEq, eq_self, if_true, if_false, not_true_eq_false, not_false_eq_true, tp_k, tp_fI, tp_fL, tp_pI, tp_pL, tp_z0, tp_z1, tp_fR0, tp0_a, tp0_t, tp0_n, tp_fR1, tp1_a, tp1_t, tp1_n, k9, cl, e1, e2', x5', e3]; first | done | omega)))) | (with_reducible apply it_n; (focus (first | assumption | (simp (disch := first | assumption | omega | rfl) only [i_rem, i_pred, i_addn1, i_lit, i_n1, i_add, i_mul, i_sub, i_le, i_lt, i_eq, i_ne1, n1_ne, n1_lt, n1_le, i_lt1, i_le1, bd_s, nar_bi, nar_0, nar_1, if_pos, if_neg, ↓reduceIte, reduceCtorEq, eq_self, if_true, if_false, not_true_eq_false, not_false_eq_true, tp_k, tp_fI, tp_fL, tp_pI, tp_pL, tp_z0, tp_z1, tp_fR0, tp0_a, tp0_t, tp0_n, tp_fR1, tp1_a, tp1_t, tp1_n, k9, cl, e1, e2', x5', e3]; first | done | omega)))))
      all_goals rfl
end
