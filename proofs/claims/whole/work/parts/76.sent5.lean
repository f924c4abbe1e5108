section
variable {I J : Nat → Nat → Int32} {L K : Nat → Nat → Int64} {r : Bool} {N : Nat} {T : Nat → Nat} {n m : Nat} {t : Tok} {e : Nat × Nat} {o : Oc} {H : Nat → Nat} {W : Nat → List Nat}
/-- what is handed down reads one as P says -/
def RfOk (n : Nat) (T : Nat → Nat) (m : Nat) (H : Nat → Nat) (W : Nat → List Nat) (r : Bool) (rf : Nat → Nat → Nat → Int32 → Mem → Option (Unit × Mem)) (u : Int32) (P : Nat → Tok → Ps) : Prop := ∀ k pre t I L, RS 4 H I → NS 4 H W L → CS 119 pre I → I 119 6 = i32 k → k ≤ 20 → pre.length ≤ 2 * k → CqR n T m (.inr t) I L → ∃ J K, rf 1 119 1 u (mk I L r) = some ((), mk J K r) ∧ CpO n T m pre (P k t) J K ∧ FrZe I J L K
/-- behind the loop, w times 'or' are still to come -/
def CfO (n : Nat) (T : Nat → Nat) (m : Nat) (pre : Cod) (w : Nat) (o : Ps) (I : Nat → Nat → Int32) (L : Nat → Nat → Int64) : Prop := match o with
  | .inl e => CqR n T m (.inl e) I L ∧ ∃ a, a ≤ 40 ∧ I 119 5 = i32 a
  | .inr x => ∃ c, x.2.2.1 = c ++ List.replicate w (8, 0, 0) ∧ CqR n T m (.inr x.2.1) I L ∧ CS 119 (pre ++ c) I ∧ I 119 6 = i32 x.1
theorem c_flat {rf : Nat → Nat → Nat → Int32 → Mem → Option (Unit × Mem)} {u : Int32} {P : Nat → Tok → Ps} (hN : 1200 < N) (h9 : n ≤ 940) (hT : ∀ k, k < n → T k < 256) (hR : RfOk n T m H W r rf u P) (hP : ∀ k t, tOk n t → psG n H k (P k t)) : ∀ F k t p d c v v4 G pre k0 I L, 21 ≤ F + k → F + 2 ≤ G → v4 + 1 ≤ k → v ≤ v4 → k0 < k → k ≤ 20 → pre.length ≤ 2 * k0 → c.length + v + 1 ≤ 2 * (k - k0) → RS 4 H I → NS 4 H W L → CS 119 (pre ++ c) I → I 119 6 = i32 k → CqR n T m (.inr t) I L → ∃ w J K, fX7_readCond_L11 N rf 119 1 u G (i32 v) (i32 v4) (mk I L r) = some (i32 w, mk J K r) ∧ w ≤ 20 ∧ CfO n T m pre w (pFl n T m P F k t p d c v) J K ∧ FrZe I J L K := by
  have hse : isSe 119 = true := by decide
  have k9 : ∀ I L, mK (mk I L r) 119 = 8 := fun I L => se_k hse
  intro F
  induction F with
  | zero => intro k t p d c v v4 G pre k0 I L h1 h2 h3 h4 h5 h6; omega
  | succ F ih =>
    intro k t p d c v v4 G pre k0 I L h1 h2 h3 h4 h5 h6 h7 h8 hs hw hc hk h
    obtain ⟨G, rfl⟩ : ∃ G', G = G' + 1 := ⟨G - 1, by omega⟩
    have x10 : I 1 10 = i32 0 := h.2.2.1
    have v20 : ¬ i32 20 ≤ i32 v4 := by rw [i_le (by omega) (by omega)]; omega
    have q8 := c_kkk (k := 8) h (by omega)
    have q9 := c_kkk (k := 9) h (by omega)
    have ll : (pre ++ c).length ≤ 2 * k := by rw [List.length_append]; omega
    rw [pFl]
    obtain ⟨J1, K1, e1, g1, g2⟩ := c_adv (N := N) (r := r) hN h
    have y6 : J1 119 6 = i32 k := by rw [g2.1 119 (by omega)]; exact hk
    obtain ⟨J2, K2, e2, g3, g4⟩ := hR k (pre ++ c) (nt n T m t) J1 K1 (RS_of (fun q z1 z2 => g2.1 q (by omega)) hs) (NS_of (fun q z1 z2 => g2.2.2 q (by omega)) hw) (CS_e hc g2) y6 h6 ll g1
    have hPx := hP k (nt n T m t) (nt_k h9 hT h.2.2.2)
    by_cases c9 : kk t = some 9
    · rw [if_pos c9]
      have z9 : I 1 9 = i32 9 := q9.mpr c9
      cases hx : P k (nt n T m t) with
      | inl e =>
        rw [hx] at g3
        obtain ⟨g3, a, ha, ga⟩ := g3
        obtain ⟨J3, e3, g5, g6, g7⟩ := c_addAny (N := N) (r := r) (v1 := i32 9) (v2 := i32 0) (v3 := i32 0) ga ha g3
        have st : fX7_readCond_L11 N rf 119 1 u (G + 1) (i32 v) (i32 v4) (mk I L r) = fX7_readCond_L11 N rf 119 1 u G (i32 v) (i32 (v4 + 1)) (mk J3 K2 r) := by
          conv => lhs; unfold fX7_readCond_L11
          unfold fX7_readCond_J43_11 fX7_readCond_J57_11
          repeat (first | (with_reducible apply bd_eq; (focus (simp (disch := first | assumption | omega | rfl) only [i_rem, i_pred, i_addn1, i_lit, i_n1, i_add, i_mul, i_sub, i_le, i_lt, i_eq, i_ne1, n1_ne, n1_lt, n1_le, i_lt1, i_le1, bd_s, nar_bi, nar_0, nar_1, if_pos, if_neg, ↓reduceIte, reduceCtorEq, eq_self, if_true, if_false, not_true_eq_false, not_false_eq_true, tp_k, tp_fI, tp_fL, tp_pI, tp_pL, tp_z0, tp_z1, tp_fR0, tp0_a, tp0_t, tp0_n, tp_fR1, tp1_a, tp1_t, tp1_n, v20, x10, z9, e1, k9, e2, e3]; first | done | (with_reducible rfl; done))); try dsimp only) | (with_reducible apply it_p; (focus (first | assumption | (simp (disch := first | assumption | omega | rfl) only [i_rem, i_pred, i_addn1, i_lit, i_n1, i_add, i_mul, i_sub, i_le, i_lt, i_eq, i_ne1, n1_ne, n1_lt, n1_le, i_lt1, i_le1, bd_s, nar_bi, nar_0, nar_1, if_pos, if_neg, ↓reduceIte, reduceCtorEq, eq_self, if_true, if_false, not_true_eq_false, not_false_eq_true, tp_k, tp_fI, tp_fL, tp_pI, tp_pL, tp_z0, tp_z1, tp_fR0, tp0_a, tp0_t, tp0_n, tp_fR1, tp1_a, tp1_t, tp1_n, v20, x10, z9, e1, k9, e2, e3]; first | done | omega)))) | (with_reducible apply it_n; (focus (first | assumption | (simp (disch := first | assumption | omega | rfl) only [i_rem, i_pred, i_addn1, i_lit, i_n1, i_add, i_mul, i_sub, i_le, i_lt, i_eq, i_ne1, n1_ne, n1_lt, n1_le, i_lt1, i_le1, bd_s, nar_bi, nar_0, nar_1, if_pos, if_neg, ↓reduceIte, reduceCtorEq, eq_self, if_true, if_false, not_true_eq_false, not_false_eq_true, tp_k, tp_fI, tp_fL, tp_pI, tp_pL, tp_z0, tp_z1, tp_fR0, tp0_a, tp0_t, tp0_n, tp_fR1, tp1_a, tp1_t, tp1_n, v20, x10, z9, e1, k9, e2, e3]; first | done | omega)))))
          all_goals simp (disch := first | assumption | omega | rfl) only [i_rem, i_pred, i_addn1, i_lit, i_n1, i_add, i_mul, i_sub, i_le, i_lt, i_eq, i_ne1, n1_ne, n1_lt, n1_le, i_lt1, i_le1, bd_s, nar_bi, nar_0, nar_1, if_pos, if_neg, ↓reduceIte, reduceCtorEq, eq_self, if_true, if_false, not_true_eq_false, not_false_eq_true]
        obtain ⟨G, rfl⟩ : ∃ G', G = G' + 1 := ⟨G - 1, by omega⟩
        have x11 := (fault_0 g5).2 rfl
        refine ⟨v, J3, K2, ?_, by omega, ⟨g5, g6⟩, (g2.ze.tr g4).tr g7⟩
        rw [st]
        unfold fX7_readCond_L11
        by_cases c20 : i32 20 ≤ i32 (v4 + 1)
        · repeat (first | (with_reducible apply bd_eq; (focus (simp (disch := first | assumption | omega | rfl) only [i_rem, i_pred, i_addn1, i_lit, i_n1, i_add, i_mul, i_sub, i_le, i_lt, i_eq, i_ne1, n1_ne, n1_lt, n1_le, i_lt1, i_le1, bd_s, nar_bi, nar_0, nar_1, if_pos, if_neg, ↓reduceIte, reduceCtorEq, eq_self, if_true, if_false, not_true_eq_false, not_false_eq_true, tp_k, tp_fI, tp_fL, tp_pI, tp_pL, tp_z0, tp_z1, tp_fR0, tp0_a, tp0_t, tp0_n, tp_fR1, tp1_a, tp1_t, tp1_n, c20]; first | done | (with_reducible rfl; done))); try dsimp only) | (with_reducible apply it_p; (focus (first | assumption | (simp (disch := first | assumption | omega | rfl) only [i_rem, i_pred, i_addn1, i_lit, i_n1, i_add, i_mul, i_sub, i_le, i_lt, i_eq, i_ne1, n1_ne, n1_lt, n1_le, i_lt1, i_le1, bd_s, nar_bi, nar_0, nar_1, if_pos, if_neg, ↓reduceIte, reduceCtorEq, eq_self, if_true, if_false, not_true_eq_false, not_false_eq_true, tp_k, tp_fI, tp_fL, tp_pI, tp_pL, tp_z0, tp_z1, tp_fR0, tp0_a, tp0_t, tp0_n, tp_fR1, tp1_a, tp1_t, tp1_n, c20]; first | done | omega)))) | (with_reducible apply it_n; (focus (first | assumption | (simp (disch := first | assumption | omega | rfl) only [i_rem, i_pred, i_addn1, i_lit, i_n1, i_add, i_mul, i_sub, i_le, i_lt, i_eq, i_ne1, n1_ne, n1_lt, n1_le, i_lt1, i_le1, bd_s, nar_bi, nar_0, nar_1, if_pos, if_neg, ↓reduceIte, reduceCtorEq, eq_self, if_true, if_false, not_true_eq_false, not_false_eq_true, tp_k, tp_fI, tp_fL, tp_pI, tp_pL, tp_z0, tp_z1, tp_fR0, tp0_a, tp0_t, tp0_n, tp_fR1, tp1_a, tp1_t, tp1_n, c20]; first | done | omega)))))
          all_goals rfl
        · repeat (first | (with_reducible apply bd_eq; (focus (simp (disch := first | assumption | omega | rfl) only [i_rem, i_pred, i_addn1, i_lit, i_n1, i_add, i_mul, i_sub, i_le, i_lt, i_eq, i_ne1, n1_ne, n1_lt, n1_le, i_lt1, i_le1, bd_s, nar_bi, nar_0, nar_1, if_pos, if_neg, ↓reduceIte, reduceCtorEq, eq_self, if_true, if_false, not_true_eq_false, not_false_eq_true, tp_k, tp_fI, tp_fL, tp_pI, tp_pL, tp_z0, tp_z1, tp_fR0, tp0_a, tp0_t, tp0_n, tp_fR1, tp1_a, tp1_t, tp1_n, c20, x11]; first | done | (with_reducible rfl; done))); try dsimp only) | (with_reducible apply it_p; (focus (first | assumption | (simp (disch := first | assumption | omega | rfl) only [i_rem, i_pred, i_addn1, i_lit, i_n1, i_add, i_mul, i_sub, i_le, i_lt, i_eq, i_ne1, n1_ne, n1_lt, n1_le, i_lt1, i_le1, bd_s, nar_bi, nar_0, nar_1, if_pos, if_neg, ↓reduceIte, reduceCtorEq, eq_self, if_true, if_false, not_true_eq_false, not_false_eq_true, tp_k, tp_fI, tp_fL, tp_pI, tp_pL, tp_z0, tp_z1, tp_fR0, tp0_a, tp0_t, tp0_n, tp_fR1, tp1_a, tp1_t, tp1_n, c20, x11]; first | done | omega)))) | (with_reducible apply it_n; (focus (first | assumption | (simp (disch := first | assumption | omega | rfl) only [i_rem, i_pred, i_addn1, i_lit, i_n1, i_add, i_mul, i_sub, i_le, i_lt, i_eq, i_ne1, n1_ne, n1_lt, n1_le, i_lt1, i_le1, bd_s, nar_bi, nar_0, nar_1, if_pos, if_neg, ↓reduceIte, reduceCtorEq, eq_self, if_true, if_false, not_true_eq_false, not_false_eq_true, tp_k, tp_fI, tp_fL, tp_pI, tp_pL, tp_z0, tp_z1, tp_fR0, tp0_a, tp0_t, tp0_n, tp_fR1, tp1_a, tp1_t, tp1_n, c20, x11]; first | done | omega)))))
          all_goals rfl
      | inr x =>
        rw [hx] at g3 hPx
        obtain ⟨g3, g5, g6⟩ := g3
        obtain ⟨a1, a2, a3, a4, a5, a6⟩ := hPx
        have l2 : (pre ++ c ++ x.2.2.1).length + 1 ≤ 2 * x.1 := by rw [List.length_append]; omega
        obtain ⟨J3, e3, g7, g8, g9', g10⟩ := c_addOk (N := N) (r := r) (x := 9) (y := 0) (z := 0) g5 (by omega) g3
        have st : fX7_readCond_L11 N rf 119 1 u (G + 1) (i32 v) (i32 v4) (mk I L r) = fX7_readCond_L11 N rf 119 1 u G (i32 v) (i32 (v4 + 1)) (mk J3 K2 r) := by
          conv => lhs; unfold fX7_readCond_L11
          unfold fX7_readCond_J43_11 fX7_readCond_J57_11
          repeat (first | (with_reducible apply bd_eq; (focus (simp (disch := first | assumption | omega | rfl) only [i_rem, i_pred, i_addn1, i_lit, i_n1, i_add, i_mul, i_sub, i_le, i_lt, i_eq, i_ne1, n1_ne, n1_lt, n1_le, i_lt1, i_le1, bd_s, nar_bi, nar_0, nar_1, if_pos, if_neg, ↓reduceIte, reduceCtorEq, eq_self, if_true, if_false, not_true_eq_false, not_false_eq_true, tp_k, tp_fI, tp_fL, tp_pI, tp_pL, tp_z0, tp_z1, tp_fR0, tp0_a, tp0_t, tp0_n, tp_fR1, tp1_a, tp1_t, tp1_n, v20, x10, z9, e1, k9, e2, e3]; first | done | (with_reducible rfl; done))); try dsimp only) | (with_reducible apply it_p; (focus (first | assumption | (simp (disch := first | assumption | omega | rfl) only [i_rem, i_pred, i_addn1, i_lit, i_n1, i_add, i_mul, i_sub, i_le, i_lt, i_eq, i_ne1, n1_ne, n1_lt, n1_le, i_lt1, i_le1, bd_s, nar_bi, nar_0, nar_1, if_pos, if_neg, ↓reduceIte, reduceCtorEq, eq_self, if_true, if_false, not_true_eq_false, not_false_eq_true, tp_k, tp_fI, tp_fL, tp_pI, tp_pL, tp_z0, tp_z1, tp_fR0, tp0_a, tp0_t, tp0_n, tp_fR1, tp1_a, tp1_t, tp1_n, v20, x10, z9, e1, k9, e2, e3]; first | done | omega)))) | (with_reducible apply it_n; (focus (first | assumption | (simp (disch := first | assumption | omega | rfl) only [i_rem, i_pred, i_addn1, i_lit, i_n1, i_add, i_mul, i_sub, i_le, i_lt, i_eq, i_ne1, n1_ne, n1_lt, n1_le, i_lt1, i_le1, bd_s, nar_bi, nar_0, nar_1, if_pos, if_neg, ↓reduceIte, reduceCtorEq, eq_self, if_true, if_false, not_true_eq_false, not_false_eq_true, tp_k, tp_fI, tp_fL, tp_pI, tp_pL, tp_z0, tp_z1, tp_fR0, tp0_a, tp0_t, tp0_n, tp_fR1, tp1_a, tp1_t, tp1_n, v20, x10, z9, e1, k9, e2, e3]; first | done | omega)))))
          all_goals simp (disch := first | assumption | omega | rfl) only [i_rem, i_pred, i_addn1, i_lit, i_n1, i_add, i_mul, i_sub, i_le, i_lt, i_eq, i_ne1, n1_ne, n1_lt, n1_le, i_lt1, i_le1, bd_s, nar_bi, nar_0, nar_1, if_pos, if_neg, ↓reduceIte, reduceCtorEq, eq_self, if_true, if_false, not_true_eq_false, not_false_eq_true]
        rw [st]
        have fr : FrZe I J3 L K2 := (g2.ze.tr g4).tr g10
        have cs : CS 119 (pre ++ (c ++ x.2.2.1 ++ [(9, 0, 0)])) J3 := by
          have : pre ++ (c ++ x.2.2.1 ++ [(9, 0, 0)]) = pre ++ c ++ x.2.2.1 ++ [(9, 0, 0)] := by simp only [List.append_assoc]
          rw [this]; exact g8
        obtain ⟨w, J, K, b1, b2, b3, b4⟩ := ih x.1 x.2.1 p (dAnd d x.2.2.2) (c ++ x.2.2.1 ++ [(9, 0, 0)]) v (v4 + 1) G pre k0 J3 K2 (by omega) (by omega) (by omega) (by omega) (by omega) a2 h7 (by
          rw [List.length_append, List.length_append]
          show c.length + x.2.2.1.length + 1 + v + 1 ≤ _
          omega) (RS_of (fun q z1 z2 => fr.1 q (by omega) (by omega)) hs) (NS_of (fun q z1 z2 => fr.2.2 q (by omega)) hw) cs (by rw [g9']; exact g6) g7
        exact ⟨w, J, K, b1, b2, b3, fr.tr b4⟩
    · rw [if_neg c9]
      have z9 : ¬ I 1 9 = i32 9 := fun z => c9 (q9.mp z)
      by_cases c8 : kk t = some 8
      · rw [if_pos c8]
        have z8 : I 1 9 = i32 8 := q8.mpr c8
        have st : fX7_readCond_L11 N rf 119 1 u (G + 1) (i32 v) (i32 v4) (mk I L r) = fX7_readCond_L11 N rf 119 1 u G (i32 (v + 1)) (i32 (v4 + 1)) (mk J2 K2 r) := by
          conv => lhs; unfold fX7_readCond_L11
          unfold fX7_readCond_J43_11 fX7_readCond_J57_11
          repeat (first | (with_reducible apply bd_eq; (focus (simp (disch := first | assumption | omega | rfl) only [i_rem, i_pred, i_addn1, i_lit, i_n1, i_add, i_mul, i_sub, i_le, i_lt, i_eq, i_ne1, n1_ne, n1_lt, n1_le, i_lt1, i_le1, bd_s, nar_bi, nar_0, nar_1, if_pos, if_neg, ↓reduceIte, reduceCtorEq, eq_self, if_true, if_false, not_true_eq_false, not_false_eq_true, tp_k, tp_fI, tp_fL, tp_pI, tp_pL, tp_z0, tp_z1, tp_fR0, tp0_a, tp0_t, tp0_n, tp_fR1, tp1_a, tp1_t, tp1_n, v20, x10, z8, e1, k9, e2]; first | done | (with_reducible rfl; done))); try dsimp only) | (with_reducible apply it_p; (focus (first | assumption | (simp (disch := first | assumption | omega | rfl) only [i_rem, i_pred, i_addn1, i_lit, i_n1, i_add, i_mul, i_sub, i_le, i_lt, i_eq, i_ne1, n1_ne, n1_lt, n1_le, i_lt1, i_le1, bd_s, nar_bi, nar_0, nar_1, if_pos, if_neg, ↓reduceIte, reduceCtorEq, eq_self, if_true, if_false, not_true_eq_false, not_false_eq_true, tp_k, tp_fI, tp_fL, tp_pI, tp_pL, tp_z0, tp_z1, tp_fR0, tp0_a, tp0_t, tp0_n, tp_fR1, tp1_a, tp1_t, tp1_n, v20, x10, z8, e1, k9, e2]; first | done | omega)))) | (with_reducible apply it_n; (focus (first | assumption | (simp (disch := first | assumption | omega | rfl) only [i_rem, i_pred, i_addn1, i_lit, i_n1, i_add, i_mul, i_sub, i_le, i_lt, i_eq, i_ne1, n1_ne, n1_lt, n1_le, i_lt1, i_le1, bd_s, nar_bi, nar_0, nar_1, if_pos, if_neg, ↓reduceIte, reduceCtorEq, eq_self, if_true, if_false, not_true_eq_false, not_false_eq_true, tp_k, tp_fI, tp_fL, tp_pI, tp_pL, tp_z0, tp_z1, tp_fR0, tp0_a, tp0_t, tp0_n, tp_fR1, tp1_a, tp1_t, tp1_n, v20, x10, z8, e1, k9, e2]; first | done | omega)))))
          all_goals simp (disch := first | assumption | omega | rfl) only [i_rem, i_pred, i_addn1, i_lit, i_n1, i_add, i_mul, i_sub, i_le, i_lt, i_eq, i_ne1, n1_ne, n1_lt, n1_le, i_lt1, i_le1, bd_s, nar_bi, nar_0, nar_1, if_pos, if_neg, ↓reduceIte, reduceCtorEq, eq_self, if_true, if_false, not_true_eq_false, not_false_eq_true]
        cases hx : P k (nt n T m t) with
        | inl e =>
          rw [hx] at g3
          obtain ⟨g3, ga⟩ := g3
          obtain ⟨G, rfl⟩ : ∃ G', G = G' + 1 := ⟨G - 1, by omega⟩
          have x11 := (fault_0 g3).2 rfl
          refine ⟨v + 1, J2, K2, ?_, by omega, ⟨g3, ga⟩, g2.ze.tr g4⟩
          rw [st]
          unfold fX7_readCond_L11
          by_cases c20 : i32 20 ≤ i32 (v4 + 1)
          · repeat (first | (with_reducible apply bd_eq; (focus (simp (disch := first | assumption | omega | rfl) only [i_rem, i_pred, i_addn1, i_lit, i_n1, i_add, i_mul, i_sub, i_le, i_lt, i_eq, i_ne1, n1_ne, n1_lt, n1_le, i_lt1, i_le1, bd_s, nar_bi, nar_0, nar_1, if_pos, if_neg, ↓reduceIte, reduceCtorEq, eq_self, if_true, if_false, not_true_eq_false, not_false_eq_true, tp_k, tp_fI, tp_fL, tp_pI, tp_pL, tp_z0, tp_z1, tp_fR0, tp0_a, tp0_t, tp0_n, tp_fR1, tp1_a, tp1_t, tp1_n, c20]; first | done | (with_reducible rfl; done))); try dsimp only) | (with_reducible apply it_p; (focus (first | assumption | (simp (disch := first | assumption | omega | rfl) only [i_rem, i_pred, i_addn1, i_lit, i_n1, i_add, i_mul, i_sub, i_le, i_lt, i_eq, i_ne1, n1_ne, n1_lt, n1_le, i_lt1, i_le1, bd_s, nar_bi, nar_0, nar_1, if_pos, if_neg, ↓reduceIte, reduceCtorEq, eq_self, if_true, if_false, not_true_eq_false, not_false_eq_true, tp_k, tp_fI, tp_fL, tp_pI, tp_pL, tp_z0, tp_z1, tp_fR0, tp0_a, tp0_t, tp0_n, tp_fR1, tp1_a, tp1_t, tp1_n, c20]; first | done | omega)))) | (with_reducible apply it_n; (focus (first | assumption | (simp (disch := first | assumption | omega | rfl) only [i_rem, i_pred, i_addn1, i_lit, i_n1, i_add, i_mul, i_sub, i_le, i_lt, i_eq, i_ne1, n1_ne, n1_lt, n1_le, i_lt1, i_le1, bd_s, nar_bi, nar_0, nar_1, if_pos, if_neg, ↓reduceIte, reduceCtorEq, eq_self, if_true, if_false, not_true_eq_false, not_false_eq_true, tp_k, tp_fI, tp_fL, tp_pI, tp_pL, tp_z0, tp_z1, tp_fR0, tp0_a, tp0_t, tp0_n, tp_fR1, tp1_a, tp1_t, tp1_n, c20]; first | done | omega)))))
            all_goals rfl
          · repeat (first | (with_reducible apply bd_eq; (focus (simp (disch := first | assumption | omega | rfl) only [i_rem, i_pred, i_addn1, i_lit, i_n1, i_add, i_mul, i_sub, i_le, i_lt, i_eq, i_ne1, n1_ne, n1_lt, n1_le, i_lt1, i_le1, bd_s, nar_bi, nar_0, nar_1, if_pos, if_neg, ↓reduceIte, reduceCtorEq, eq_self, if_true, if_false, not_true_eq_false, not_false_eq_true, tp_k, tp_fI, tp_fL, tp_pI, tp_pL, tp_z0, tp_z1, tp_fR0, tp0_a, tp0_t, tp0_n, tp_fR1, tp1_a, tp1_t, tp1_n, c20, x11]; first | done | (with_reducible rfl; done))); try dsimp only) | (with_reducible apply it_p; (focus (first | assumption | (simp (disch := first | assumption | omega | rfl) only [i_rem, i_pred, i_addn1, i_lit, i_n1, i_add, i_mul, i_sub, i_le, i_lt, i_eq, i_ne1, n1_ne, n1_lt, n1_le, i_lt1, i_le1, bd_s, nar_bi, nar_0, nar_1, if_pos, if_neg, ↓reduceIte, reduceCtorEq, eq_self, if_true, if_false, not_true_eq_false, not_false_eq_true, tp_k, tp_fI, tp_fL, tp_pI, tp_pL, tp_z0, tp_z1, tp_fR0, tp0_a, tp0_t, tp0_n, tp_fR1, tp1_a, tp1_t, tp1_n, c20, x11]; first | done | omega)))) | (with_reducible apply it_n; (focus (first | assumption | (simp (disch := first | assumption | omega | rfl) only [i_rem, i_pred, i_addn1, i_lit, i_n1, i_add, i_mul, i_sub, i_le, i_lt, i_eq, i_ne1, n1_ne, n1_lt, n1_le, i_lt1, i_le1, bd_s, nar_bi, nar_0, nar_1, if_pos, if_neg, ↓reduceIte, reduceCtorEq, eq_self, if_true, if_false, not_true_eq_false, not_false_eq_true, tp_k, tp_fI, tp_fL, tp_pI, tp_pL, tp_z0, tp_z1, tp_fR0, tp0_a, tp0_t, tp0_n, tp_fR1, tp1_a, tp1_t, tp1_n, c20, x11]; first | done | omega)))))
            all_goals rfl
        | inr x =>
          rw [hx] at g3 hPx
          obtain ⟨g3, g5, g6⟩ := g3
          obtain ⟨a1, a2, a3, a4, a5, a6⟩ := hPx
          rw [st]
          have fr : FrZe I J2 L K2 := g2.ze.tr g4
          have cs : CS 119 (pre ++ (c ++ x.2.2.1)) J2 := by rw [← List.append_assoc]; exact g5
          obtain ⟨w, J, K, b1, b2, b3, b4⟩ := ih x.1 x.2.1 (some (dOr p d)) x.2.2.2 (c ++ x.2.2.1) (v + 1) (v4 + 1) G pre k0 J2 K2 (by omega) (by omega) (by omega) (by omega) (by omega) a2 h7 (by rw [List.length_append]; omega) (RS_of (fun q z1 z2 => fr.1 q (by omega) (by omega)) hs) (NS_of (fun q z1 z2 => fr.2.2 q (by omega)) hw) cs g6 g3
          exact ⟨w, J, K, b1, b2, b3, fr.tr b4⟩
      · rw [if_neg c8]
        have z8 : ¬ I 1 9 = i32 8 := fun z => c8 (q8.mp z)
        refine ⟨v, I, L, ?_, by omega, ⟨c, rfl, h, hc, hk⟩, FrZe.rf⟩
        unfold fX7_readCond_L11
        repeat (first | (with_reducible apply bd_eq; (focus (simp (disch := first | assumption | omega | rfl) only [i_rem, i_pred, i_addn1, i_lit, i_n1, i_add, i_mul, i_sub, i_le, i_lt, i_eq, i_ne1, n1_ne, n1_lt, n1_le, i_lt1, i_le1, bd_s, nar_bi, nar_0, nar_1, if_pos, if_neg, ↓reduceIte, reduceCtorEq, eq_self, if_true, if_false, not_true_eq_false, not_false_eq_true, tp_k, tp_fI, tp_fL, tp_pI, tp_pL, tp_z0, tp_z1, tp_fR0, tp0_a, tp0_t, tp0_n, tp_fR1, tp1_a, tp1_t, tp1_n, v20, x10, z8, z9]; first | done | (with_reducible rfl; done))); try dsimp only) | (with_reducible apply it_p; (focus (first | assumption | (simp (disch := first | assumption | omega | rfl) only [i_rem, i_pred, i_addn1, i_lit, i_n1, i_add, i_mul, i_sub, i_le, i_lt, i_eq, i_ne1, n1_ne, n1_lt, n1_le, i_lt1, i_le1, bd_s, nar_bi, nar_0, nar_1, if_pos, if_neg, ↓reduceIte, reduceCtorEq, eq_self, if_true, if_false, not_true_eq_false, not_false_eq_true, tp_k, tp_fI, tp_fL, tp_pI, tp_pL, tp_z0, tp_z1, tp_fR0, tp0_a, tp0_t, tp0_n, tp_fR1, tp1_a, tp1_t, tp1_n, v20, x10, z8, z9]; first | done | omega)))) | (with_reducible apply it_n; (focus (first | assumption | (simp (disch := first | assumption | omega | rfl) only [i_rem, i_pred, i_addn1, i_lit, i_n1, i_add, i_mul, i_sub, i_le, i_lt, i_eq, i_ne1, n1_ne, n1_lt, n1_le, i_lt1, i_le1, bd_s, nar_bi, nar_0, nar_1, if_pos, if_neg, ↓reduceIte, reduceCtorEq, eq_self, if_true, if_false, not_true_eq_false, not_false_eq_true, tp_k, tp_fI, tp_fL, tp_pI, tp_pL, tp_z0, tp_z1, tp_fR0, tp0_a, tp0_t, tp0_n, tp_fR1, tp1_a, tp1_t, tp1_n, v20, x10, z8, z9]; first | done | omega)))))
        all_goals rfl
theorem c_L11f {rf : Nat → Nat → Nat → Int32 → Mem → Option (Unit × Mem)} {u : Int32} {G : Nat} (x11 : ¬ I 1 10 = i32 0) (hG : 0 < G) : fX7_readCond_L11 N rf 119 1 u G (i32 0) (i32 0) (mk I L r) = some (i32 0, mk I L r) := by
  obtain ⟨G, rfl⟩ : ∃ G', G = G' + 1 := ⟨G - 1, by omega⟩
  unfold fX7_readCond_L11
  repeat (first | (with_reducible apply bd_eq; (focus (simp (disch := first | assumption | omega | rfl) only [i_rem, i_pred, i_addn1, i_lit, i_n1, i_add, i_mul, i_sub, i_le, i_lt, i_eq, i_ne1, n1_ne, n1_lt, n1_le, i_lt1, i_le1, bd_s, nar_bi, nar_0, nar_1, if_pos, if_neg, ↓reduceIte, reduceCtorEq, eq_self, if_true, if_false, not_true_eq_false, not_false_eq_true, tp_k, tp_fI, tp_fL, tp_pI, tp_pL, tp_z0, tp_z1, tp_fR0, tp0_a, tp0_t, tp0_n, tp_fR1, tp1_a, tp1_t, tp1_n, x11]; first | done | (with_reducible rfl; done))); try dsimp only) | (with_reducible apply it_p; (focus (first | assumption | (simp (disch := first | assumption | omega | rfl) only [i_rem, i_pred, i_addn1, i_lit, i_n1, i_add, i_mul, i_sub, i_le, i_lt, i_eq, i_ne1, n1_ne, n1_lt, n1_le, i_lt1, i_le1, bd_s, nar_bi, nar_0, nar_1, if_pos, if_neg, ↓reduceIte, reduceCtorEq, eq_self, if_true, if_false, not_true_eq_false, not_false_eq_true, tp_k, tp_fI, tp_fL, tp_pI, tp_pL, tp_z0, tp_z1, tp_fR0, tp0_a, tp0_t, tp0_n, tp_fR1, tp1_a, tp1_t, tp1_n, x11]; first | done | omega)))) | (with_reducible apply it_n; (focus (first | assumption | (simp (disch := first | assumption | omega | rfl) only [i_rem, i_pred, i_addn1, i_lit, i_n1, i_add, i_mul, i_sub, i_le, i_lt, i_eq, i_ne1, n1_ne, n1_lt, n1_le, i_lt1, i_le1, bd_s, nar_bi, nar_0, nar_1, if_pos, if_neg, ↓reduceIte, reduceCtorEq, eq_self, if_true, if_false, not_true_eq_false, not_false_eq_true, tp_k, tp_fI, tp_fL, tp_pI, tp_pL, tp_z0, tp_z1, tp_fR0, tp0_a, tp0_t, tp0_n, tp_fR1, tp1_a, tp1_t, tp1_n, x11]; first | done | omega)))))
  all_goals rfl
theorem c_cond {rf : Nat → Nat → Nat → Int32 → Mem → Option (Unit × Mem)} {u : Int32} {P : Nat → Tok → Ps} {k : Nat} {pre : Cod} (hN : 1200 < N) (h9 : n ≤ 940) (hT : ∀ k, k < n → T k < 256) (hR : RfOk n T m H W r rf u P) (hP : ∀ k t, tOk n t → psG n H k (P k t)) (hs : RS 4 H I) (hw : NS 4 H W L) (hc : CS 119 pre I) (hk : I 119 6 = i32 k) (hk2 : k ≤ 20) (hl : pre.length ≤ 2 * k) (h : CqR n T m (.inr t) I L) : ∃ J K, fX7_readCond_b N rf 119 1 u (mk I L r) = some ((), mk J K r) ∧ CpO n T m pre (pCo n T m P k t) J K ∧ FrZe I J L K := by
  have hse : isSe 119 = true := by decide
  have k9 : ∀ I L, mK (mk I L r) 119 = 8 := fun I L => se_k hse
  obtain ⟨J1, K1, e1, g1, g2⟩ := hR k pre t I L hs hw hc hk hk2 hl h
  have hPx := hP k t h.2.2.2
  unfold pCo
  cases hx : P k t with
  | inl e =>
    rw [hx] at g1
    have x11 := (fault_0 g1.1).2 rfl
    have l11 := c_L11f (N := N) (rf := rf) (u := u) (L := K1) (r := r) (G := N) x11 (by omega)
    obtain ⟨g1, a, ha, ga⟩ := g1
    obtain ⟨J2, e2, g3, g4, g5⟩ := c_orsF (N := N) (r := r) (rf := rf) (w := 0) (by omega) 0 0 N a J1 (by omega) (by omega) ga ha g1
    refine ⟨J2, K1, ?_, ⟨g3, g4⟩, g2.tr g5⟩
    unfold fX7_readCond_b fX7_readCond_J94
    repeat (first | (with_reducible apply bd_eq; (focus (simp (disch := first | assumption | omega | rfl) only [i_rem, i_pred, i_addn1, i_lit, i_n1, i_add, i_mul, i_sub, i_le, i_lt, i_eq, i_ne1, n1_ne, n1_lt, n1_le, i_lt1, i_le1, bd_s, nar_bi, nar_0, nar_1, if_pos, if_neg, ↓reduceIte, reduceCtorEq, eq_self, if_true, if_false, not_true_eq_false, not_false_eq_true, k9, e1, l11, e2]; first | done | (with_reducible rfl; done))); try dsimp only) | (with_reducible apply it_p; (focus (first | assumption | (simp (disch := first | assumption | omega | rfl) only [i_rem, i_pred, i_addn1, i_lit, i_n1, i_add, i_mul, i_sub, i_le, i_lt, i_eq, i_ne1, n1_ne, n1_lt, n1_le, i_lt1, i_le1, bd_s, nar_bi, nar_0, nar_1, if_pos, if_neg, ↓reduceIte, reduceCtorEq, eq_self, if_true, if_false, not_true_eq_false, not_false_eq_true, k9, e1, l11, e2]; first | done | omega)))) | (with_reducible apply it_n; (focus (first | assumption | (simp (disch := first | assumption | omega | rfl) only [i_rem, i_pred, i_addn1, i_lit, i_n1, i_add, i_mul, i_sub, i_le, i_lt, i_eq, i_ne1, n1_ne, n1_lt, n1_le, i_lt1, i_le1, bd_s, nar_bi, nar_0, nar_1, if_pos, if_neg, ↓reduceIte, reduceCtorEq, eq_self, if_true, if_false, not_true_eq_false, not_false_eq_true, k9, e1, l11, e2]; first | done | omega)))))
    all_goals rfl
  | inr x =>
    rw [hx] at g1 hPx
    obtain ⟨g1, g3, g4⟩ := g1
    obtain ⟨a1, a2, a3, a4, a5, a6⟩ := hPx
    have pk := pFl_ok (m := m) (P := P) h9 hT hP 21 x.1 x.2.1 none x.2.2.2 x.2.2.1 0 k a1 a2 a3 (by omega) a5 (inv_0 a6)
    obtain ⟨w, J2, K2, e2, g5, g6, g7⟩ := c_flat (N := N) hN h9 hT hR hP 21 x.1 x.2.1 none x.2.2.2 x.2.2.1 0 0 N pre k J1 K1 (by omega) (by omega) (by omega) (by omega) a1 a2 hl (by omega) (RS_of (fun q z1 z2 => g2.1 q (by omega) (by omega)) hs) (NS_of (fun q z1 z2 => g2.2.2 q (by omega)) hw) g3 g4 g1
    dsimp only
    cases hf : pFl n T m P 21 x.1 x.2.1 none x.2.2.2 x.2.2.1 0 with
    | inl e =>
      rw [hf] at g6
      obtain ⟨g6, a, ha, ga⟩ := g6
      obtain ⟨J3, e3, g8, g9, g10⟩ := c_orsF (N := N) (r := r) (rf := rf) (w := w) (by omega) w 0 N a J2 (by omega) (by omega) ga ha g6
      refine ⟨J3, K2, ?_, ⟨g8, g9⟩, (g2.tr g7).tr g10⟩
      unfold fX7_readCond_b fX7_readCond_J94
      repeat (first | (with_reducible apply bd_eq; (focus (simp (disch := first | assumption | omega | rfl) only [i_rem, i_pred, i_addn1, i_lit, i_n1, i_add, i_mul, i_sub, i_le, i_lt, i_eq, i_ne1, n1_ne, n1_lt, n1_le, i_lt1, i_le1, bd_s, nar_bi, nar_0, nar_1, if_pos, if_neg, ↓reduceIte, reduceCtorEq, eq_self, if_true, if_false, not_true_eq_false, not_false_eq_true, k9, e1, e2, e3]; first | done | (with_reducible rfl; done))); try dsimp only) | (with_reducible apply it_p; (focus (first | assumption | (simp (disch := first | assumption | omega | rfl) only [i_rem, i_pred, i_addn1, i_lit, i_n1, i_add, i_mul, i_sub, i_le, i_lt, i_eq, i_ne1, n1_ne, n1_lt, n1_le, i_lt1, i_le1, bd_s, nar_bi, nar_0, nar_1, if_pos, if_neg, ↓reduceIte, reduceCtorEq, eq_self, if_true, if_false, not_true_eq_false, not_false_eq_true, k9, e1, e2, e3]; first | done | omega)))) | (with_reducible apply it_n; (focus (first | assumption | (simp (disch := first | assumption | omega | rfl) only [i_rem, i_pred, i_addn1, i_lit, i_n1, i_add, i_mul, i_sub, i_le, i_lt, i_eq, i_ne1, n1_ne, n1_lt, n1_le, i_lt1, i_le1, bd_s, nar_bi, nar_0, nar_1, if_pos, if_neg, ↓reduceIte, reduceCtorEq, eq_self, if_true, if_false, not_true_eq_false, not_false_eq_true, k9, e1, e2, e3]; first | done | omega)))))
      all_goals rfl
    | inr y =>
      rw [hf] at g6 pk
      obtain ⟨c, hc', g6, g8, g9⟩ := g6
      obtain ⟨b1, b2, b3, b4, b5, b6⟩ := pk
      rw [hc', List.length_append, List.length_replicate] at b4
      obtain ⟨J3, e3, g10, g11, g12, g13⟩ := c_ors (N := N) (r := r) (rf := rf) (w := w) (by omega) w 0 N (pre ++ c) J2 (by omega) (by omega) g8 (by rw [List.length_append]; omega) g6
      refine ⟨J3, K2, ?_, ⟨g10, by rw [hc', ← List.append_assoc]; exact g11, by rw [g12]; exact g9⟩, (g2.tr g7).tr g13⟩
      unfold fX7_readCond_b fX7_readCond_J94
      repeat (first | (with_reducible apply bd_eq; (focus (simp (disch := first | assumption | omega | rfl) only [i_rem, i_pred, i_addn1, i_lit, i_n1, i_add, i_mul, i_sub, i_le, i_lt, i_eq, i_ne1, n1_ne, n1_lt, n1_le, i_lt1, i_le1, bd_s, nar_bi, nar_0, nar_1, if_pos, if_neg, ↓reduceIte, reduceCtorEq, eq_self, if_true, if_false, not_true_eq_false, not_false_eq_true, k9, e1, e2, e3]; first | done | (with_reducible rfl; done))); try dsimp only) | (with_reducible apply it_p; (focus (first | assumption | (simp (disch := first | assumption | omega | rfl) only [i_rem, i_pred, i_addn1, i_lit, i_n1, i_add, i_mul, i_sub, i_le, i_lt, i_eq, i_ne1, n1_ne, n1_lt, n1_le, i_lt1, i_le1, bd_s, nar_bi, nar_0, nar_1, if_pos, if_neg, ↓reduceIte, reduceCtorEq, eq_self, if_true, if_false, not_true_eq_false, not_false_eq_true, k9, e1, e2, e3]; first | done | omega)))) | (with_reducible apply it_n; (focus (first | assumption | (simp (disch := first | assumption | omega | rfl) only [i_rem, i_pred, i_addn1, i_lit, i_n1, i_add, i_mul, i_sub, i_le, i_lt, i_eq, i_ne1, n1_ne, n1_lt, n1_le, i_lt1, i_le1, bd_s, nar_bi, nar_0, nar_1, if_pos, if_neg, ↓reduceIte, reduceCtorEq, eq_self, if_true, if_false, not_true_eq_false, not_false_eq_true, k9, e1, e2, e3]; first | done | omega)))))
      all_goals rfl
theorem c_stW (h : CqR n T m (.inr t) I L) : (isBk t = true → stW t = some 20) ∧ (isBk t = false → stW t = none → ¬ i32 10 ≤ I 1 9) ∧ ∀ q, isBk t = false → stW t = some q → I 1 9 = i32 q ∧ 10 ≤ q ∧ q ≤ 19 := by
  refine ⟨fun z => by unfold stW; rw [if_pos z], fun z1 z2 => ?_, fun q z1 z2 => ?_⟩
  · rw [c_kk h]
    unfold stW at z2
    rw [z1, if_neg (by decide)] at z2
    cases hk : kk t with
    | none => show ¬ i32 10 ≤ n1; rw [i_le1 (by omega)]; exact id
    | some k =>
      rw [hk] at z2
      dsimp only at z2
      have := (kk_lt hk).2.1
      show ¬ i32 10 ≤ i32 k
      rw [i_le (by omega) (by omega)]
      intro z
      rw [if_pos z] at z2; cases z2
  · rcases stW_q z2 with ⟨_, z3⟩ | ⟨_, z3, z4, z5⟩
    · rw [z1] at z3; cases z3
    · exact ⟨by rw [c_kk h, z3]; rfl, z4, z5⟩
end
