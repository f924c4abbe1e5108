section
variable {I J : Nat → Nat → Int32} {L K : Nat → Nat → Int64} {r : Bool} {N : Nat} {T : Nat → Nat} {n m : Nat} {t : Tok} {e : Nat × Nat} {o : Oc} {H : Nat → Nat} {W : Nat → List Nat} {f : Int32}
theorem m_seP (hN : 1200 < N) (hO : hOk H) (hn : nOk H W) (hm : MNm H W I L) (h : MT n T f I) (h9 : n ≤ 940) (hT : ∀ k, k < n → T k < 256) : ∃ J1 K1 J K, fX11_begin N 186 (i32 200) (mk I L r) = some ((), mk J1 K1 r) ∧ fX11_rd N 80 0 186 (mk (up (up (up J1 186 41 (i32 0)) 186 42 (i32 0)) 186 43 (i32 0)) K1 r) = some (bi (isP (seP n T H W)), mk J K r) ∧ MpO n T 200 H 0 0 (seP n T H W) J1 J K ∧ J 186 2 = i32 0 ∧ (∀ z, z ≠ 186 → z ≠ 205 → J z = I z) ∧ (∀ k, 14 ≤ k → (k < 41 ∨ 44 < k) → J 186 k = I 186 k) ∧ ∀ z, z ≠ 186 → K z = L z := by
  obtain ⟨J1, K1, e1, p1, p2, p3, p4, p5⟩ := m_begin (N := N) (L := L) (r := r) (m := 200) hN h h9 hT (by omega)
  have u1 : fX11_rd N 79 1 186 = fX11_readAnd_b N (fX11_rd N 78) 186 := by funext M; rw [fX11_rd, if_neg (by decide), if_pos rfl]
  have u0 : fX11_rd N 80 0 186 = fX11_readOr_b N (fX11_rd N 79) 186 := by funext M; rw [fX11_rd, if_pos rfl]
  have ok := pOn_ok (m := 200) (W := W) hO h9 hT 8
  have a2 := m_one (N := N) (r := r) (m := 200) hN hO hn h9 hT 8 (by omega) 77 (by omega)
  have a1 : AfOk n T 200 H W r (fX11_rd N 79 1 186) 0 (pOn n T 200 H W 8) := by rw [u1]; exact m_and hN h9 hT ok a2
  have a0 : MfOk n T 200 H W r (fX11_rd N 80 0 186) 0 (pCo n T 200 (pOn n T 200 H W 8)) := by rw [u0]; exact m_or hN h9 hT a1
  have mn : MNm H W (up (up (up J1 186 41 (i32 0)) 186 42 (i32 0)) 186 43 (i32 0)) K1 := by
    unfold MNm at *; rw [up_row (by omega), up_row (by omega), up_row (by omega), p2 188 (by omega), p3 193 (by omega)]; exact hm
  obtain ⟨J, K, e2, g1, g2⟩ := a0 0 0 (nxT T n 200 0) _ K1 mn (by rw [up_ofk (by omega), up_ofk (by omega), up_self]) (by rw [up_ofk (by omega), up_self]) up_self (by omega) (by omega) (MqR_g6 (by omega) (MqR_g6 (by omega) (MqR_g6 (by omega) p1)))
  refine ⟨J1, K1, J, K, e1, e2, MpO_fr (fun i hi => by omega) g1, ?_, fun z z1 z2 => ?_, fun k z1 z2 => ?_, fun z z1 => ?_⟩
  · rw [g2.2.1 2 (by omega) (by omega), up_ofk (by omega), up_ofk (by omega), up_ofk (by omega)]; exact p4
  · rw [g2.1 z z1 z2, up_row z1, up_row z1, up_row z1, p2 z z1]
  · rw [g2.2.1 k (by omega) z2, up_ofk (by omega), up_ofk (by omega), up_ofk (by omega), p5 k z1]
  · rw [g2.2.2 z z1, p3 z z1]
theorem m_sentF {e : Nat × Nat} (hN : 1200 < N) (hO : hOk H) (hn : nOk H W) (hm : MNm H W I L) (h : MT n T f I) (h9 : n ≤ 940) (hT : ∀ k, k < n → T k < 256) (hr : seR n T H W = .inl e) : ∃ J K, fX11_sentence N 186 (mk I L r) = some (-(i32 1) - i32 e.2, mk J K r) ∧ J 186 2 = i32 0 ∧ J 186 10 = i32 e.1 ∧ (∀ z, z ≠ 186 → z ≠ 205 → J z = I z) ∧ (∀ k, 14 ≤ k → (k < 41 ∨ 44 < k) → J 186 k = I 186 k) ∧ ∀ z, z ≠ 186 → K z = L z := by
  have kt : ¬ bi true = i32 0 := by decide
  have kf : bi false = i32 0 := rfl
  obtain ⟨J1, K1, J, K, e1, e2, g1, g2, g3, g4, g5⟩ := m_seP (N := N) (r := r) hN hO hn hm h h9 hT
  unfold seR at hr
  cases hx : seP n T H W with
  | inl e' =>
    rw [hx] at hr e2 g1
    cases hr
    have e2 : fX11_rd N 80 0 186 (mk (up (up (up J1 186 41 (i32 0)) 186 42 (i32 0)) 186 43 (i32 0)) K1 r) = some (bi false, mk J K r) := e2
    have g1 : MqR n T 200 (.inl e) J K := g1
    have f3 : J 186 11 = i32 e.2 := g1.2.2
    refine ⟨J, K, ?_, g2, g1.2.1, g3, g4, g5⟩
    unfold fX11_sentence
    repeat (first | (with_reducible apply bd_eq; (focus (simp (disch := first | assumption | omega | rfl) only [i_rem, i_pred, i_addn1, i_lit, i_n1, i_add, i_mul, i_sub, i_le, i_lt, i_eq, i_ne1, n1_ne, n1_lt, n1_le, i_lt1, i_le1, bd_s, nar_bi, nar_0, nar_1, if_pos, if_neg, ↓reduceIte, reduceCtorEq, eq_self, if_true, if_false, not_true_eq_false, not_false_eq_true, mo_k, mo_fI, mo_fL, mo_pI, mo_pL, mo_z0, mo_z1, mo_fR1, mo1_a, mo1_t, mo1_n, mo_fR14, mo14_a, mo14_t, mo14_n, mo_fR15, mo15_a, mo15_t, mo15_n, mo_fR16, mo16_a, mo16_t, mo16_n, mo_fR17, mo17_a, mo17_t, mo17_n, mo_fR18, mo18_a, mo18_t, mo18_n, mo_fR19, mo19_a, mo19_t, mo19_n, mo_fR20, mo20_a, mo20_t, mo20_n, mo_fR21, mo21_a, mo21_t, mo21_n, mo_fR22, mo22_a, mo22_t, mo22_n, mo_fR25, mo25_a, mo25_t, mo25_n, mo_fR26, mo26_a, mo26_t, mo26_n, mo_fR28, mo28_a, mo28_t, mo28_n, mo_fR29, mo29_a, mo29_t, mo29_n, mo_fR30, mo30_a, mo30_t, mo30_n, mo_fR33, mo33_a, mo33_t, mo33_n, mo_fR36, mo36_a, mo36_t, mo36_n, mo_fR37, mo37_a, mo37_t, mo37_n, mo_fR40, mo40_a, mo40_t, mo40_n, e1, e2, kf, f3]; first | done | (with_reducible rfl; done))); try dsimp only) | (with_reducible apply it_p; (focus (first | assumption | (simp (disch := first | assumption | omega | rfl) only [i_rem, i_pred, i_addn1, i_lit, i_n1, i_add, i_mul, i_sub, i_le, i_lt, i_eq, i_ne1, n1_ne, n1_lt, n1_le, i_lt1, i_le1, bd_s, nar_bi, nar_0, nar_1, if_pos, if_neg, ↓reduceIte, reduceCtorEq, eq_self, if_true, if_false, not_true_eq_false, not_false_eq_true, mo_k, mo_fI, mo_fL, mo_pI, mo_pL, mo_z0, mo_z1, mo_fR1, mo1_a, mo1_t, mo1_n, mo_fR14, mo14_a, mo14_t, mo14_n, mo_fR15, mo15_a, mo15_t, mo15_n, mo_fR16, mo16_a, mo16_t, mo16_n, mo_fR17, mo17_a, mo17_t, mo17_n, mo_fR18, mo18_a, mo18_t, mo18_n, mo_fR19, mo19_a, mo19_t, mo19_n, mo_fR20, mo20_a, mo20_t, mo20_n, mo_fR21, mo21_a, mo21_t, mo21_n, mo_fR22, mo22_a, mo22_t, mo22_n, mo_fR25, mo25_a, mo25_t, mo25_n, mo_fR26, mo26_a, mo26_t, mo26_n, mo_fR28, mo28_a, mo28_t, mo28_n, mo_fR29, mo29_a, mo29_t, mo29_n, mo_fR30, mo30_a, mo30_t, mo30_n, mo_fR33, mo33_a, mo33_t, mo33_n, mo_fR36, mo36_a, mo36_t, mo36_n, mo_fR37, mo37_a, mo37_t, mo37_n, mo_fR40, mo40_a, mo40_t, mo40_n, e1, e2, kf, f3]; first | done | omega)))) | (with_reducible apply it_n; (focus (first | assumption | (simp (disch := first | assumption | omega | rfl) only [i_rem, i_pred, i_addn1, i_lit, i_n1, i_add, i_mul, i_sub, i_le, i_lt, i_eq, i_ne1, n1_ne, n1_lt, n1_le, i_lt1, i_le1, bd_s, nar_bi, nar_0, nar_1, if_pos, if_neg, ↓reduceIte, reduceCtorEq, eq_self, if_true, if_false, not_true_eq_false, not_false_eq_true, mo_k, mo_fI, mo_fL, mo_pI, mo_pL, mo_z0, mo_z1, mo_fR1, mo1_a, mo1_t, mo1_n, mo_fR14, mo14_a, mo14_t, mo14_n, mo_fR15, mo15_a, mo15_t, mo15_n, mo_fR16, mo16_a, mo16_t, mo16_n, mo_fR17, mo17_a, mo17_t, mo17_n, mo_fR18, mo18_a, mo18_t, mo18_n, mo_fR19, mo19_a, mo19_t, mo19_n, mo_fR20, mo20_a, mo20_t, mo20_n, mo_fR21, mo21_a, mo21_t, mo21_n, mo_fR22, mo22_a, mo22_t, mo22_n, mo_fR25, mo25_a, mo25_t, mo25_n, mo_fR26, mo26_a, mo26_t, mo26_n, mo_fR28, mo28_a, mo28_t, mo28_n, mo_fR29, mo29_a, mo29_t, mo29_n, mo_fR30, mo30_a, mo30_t, mo30_n, mo_fR33, mo33_a, mo33_t, mo33_n, mo_fR36, mo36_a, mo36_t, mo36_n, mo_fR37, mo37_a, mo37_t, mo37_n, mo_fR40, mo40_a, mo40_t, mo40_n, e1, e2, kf, f3]; first | done | omega)))))
    all_goals rfl
  | inr x =>
    rw [hx] at hr e2 g1
    dsimp only at hr
    by_cases c0 : x.2.1.1 = 0
    · rw [if_pos c0] at hr; cases hr
    · rw [if_neg c0] at hr
      cases hr
      have e2 : fX11_rd N 80 0 186 (mk (up (up (up J1 186 41 (i32 0)) 186 42 (i32 0)) 186 43 (i32 0)) K1 r) = some (bi true, mk J K r) := e2
      obtain ⟨b1, b2, b3, b4, b5⟩ := g1
      have x7 : J 186 7 = i32 (kM x.2.1.1) := b1.2.1.1
      have x7' : ¬ J 186 7 = i32 0 := by
        have : kM x.2.1.1 < 10 := by unfold kM; (repeat' split) <;> omega
        rw [x7, i_eq (by omega) (by omega)]
        unfold kM; rw [if_neg c0]; (repeat' split) <;> omega
      obtain ⟨J2, e3, c1, c2⟩ := m_bad (N := N) (r := r) (k := 1) b1 (fun _ => rfl)
      have f3 : J2 186 11 = i32 x.2.1.2.1 := c1.2.2
      refine ⟨J2, K, ?_, ?_, c1.2.1, fun z z1 z2 => by rw [c2.1 z z1]; exact g3 z z1 z2, fun k z1 z2 => by rw [c2.2.1 k (by unfold Sq; omega)]; exact g4 k z1 z2, g5⟩
      · unfold fX11_sentence
        repeat (first | (with_reducible apply bd_eq; (focus (simp (disch := first | assumption | omega | rfl) only [i_rem, i_pred, i_addn1, i_lit, i_n1, i_add, i_mul, i_sub, i_le, i_lt, i_eq, i_ne1, n1_ne, n1_lt, n1_le, i_lt1, i_le1, bd_s, nar_bi, nar_0, nar_1, if_pos, if_neg, ↓reduceIte, reduceCtorEq, eq_self, if_true, if_false, not_true_eq_false, not_false_eq_true, mo_k, mo_fI, mo_fL, mo_pI, mo_pL, mo_z0, mo_z1, mo_fR1, mo1_a, mo1_t, mo1_n, mo_fR14, mo14_a, mo14_t, mo14_n, mo_fR15, mo15_a, mo15_t, mo15_n, mo_fR16, mo16_a, mo16_t, mo16_n, mo_fR17, mo17_a, mo17_t, mo17_n, mo_fR18, mo18_a, mo18_t, mo18_n, mo_fR19, mo19_a, mo19_t, mo19_n, mo_fR20, mo20_a, mo20_t, mo20_n, mo_fR21, mo21_a, mo21_t, mo21_n, mo_fR22, mo22_a, mo22_t, mo22_n, mo_fR25, mo25_a, mo25_t, mo25_n, mo_fR26, mo26_a, mo26_t, mo26_n, mo_fR28, mo28_a, mo28_t, mo28_n, mo_fR29, mo29_a, mo29_t, mo29_n, mo_fR30, mo30_a, mo30_t, mo30_n, mo_fR33, mo33_a, mo33_t, mo33_n, mo_fR36, mo36_a, mo36_t, mo36_n, mo_fR37, mo37_a, mo37_t, mo37_n, mo_fR40, mo40_a, mo40_t, mo40_n, e1, e2, kt, x7', e3, f3]; first | done | (with_reducible rfl; done))); try dsimp only) | (with_reducible apply it_p; (focus (first | assumption | (simp (disch := first | assumption | omega | rfl) only [i_rem, i_pred, i_addn1, i_lit, i_n1, i_add, i_mul, i_sub, i_le, i_lt, i_eq, i_ne1, n1_ne, n1_lt, n1_le, i_lt1, i_le1, bd_s, nar_bi, nar_0, nar_1, if_pos, if_neg, ↓reduceIte, reduceCtorEq, eq_self, if_true, if_false, not_true_eq_false, not_false_eq_true, mo_k, mo_fI, mo_fL, mo_pI, mo_pL, mo_z0, mo_z1, mo_fR1, mo1_a, mo1_t, mo1_n, mo_fR14, mo14_a, mo14_t, mo14_n, mo_fR15, mo15_a, mo15_t, mo15_n, mo_fR16, mo16_a, mo16_t, mo16_n, mo_fR17, mo17_a, mo17_t, mo17_n, mo_fR18, mo18_a, mo18_t, mo18_n, mo_fR19, mo19_a, mo19_t, mo19_n, mo_fR20, mo20_a, mo20_t, mo20_n, mo_fR21, mo21_a, mo21_t, mo21_n, mo_fR22, mo22_a, mo22_t, mo22_n, mo_fR25, mo25_a, mo25_t, mo25_n, mo_fR26, mo26_a, mo26_t, mo26_n, mo_fR28, mo28_a, mo28_t, mo28_n, mo_fR29, mo29_a, mo29_t, mo29_n, mo_fR30, mo30_a, mo30_t, mo30_n, mo_fR33, mo33_a, mo33_t, mo33_n, mo_fR36, mo36_a, mo36_t, mo36_n, mo_fR37, mo37_a, mo37_t, mo37_n, mo_fR40, mo40_a, mo40_t, mo40_n, e1, e2, kt, x7', e3, f3]; first | done | omega)))) | (with_reducible apply it_n; (focus (first | assumption | (simp (disch := first | assumption | omega | rfl) only [i_rem, i_pred, i_addn1, i_lit, i_n1, i_add, i_mul, i_sub, i_le, i_lt, i_eq, i_ne1, n1_ne, n1_lt, n1_le, i_lt1, i_le1, bd_s, nar_bi, nar_0, nar_1, if_pos, if_neg, ↓reduceIte, reduceCtorEq, eq_self, if_true, if_false, not_true_eq_false, not_false_eq_true, mo_k, mo_fI, mo_fL, mo_pI, mo_pL, mo_z0, mo_z1, mo_fR1, mo1_a, mo1_t, mo1_n, mo_fR14, mo14_a, mo14_t, mo14_n, mo_fR15, mo15_a, mo15_t, mo15_n, mo_fR16, mo16_a, mo16_t, mo16_n, mo_fR17, mo17_a, mo17_t, mo17_n, mo_fR18, mo18_a, mo18_t, mo18_n, mo_fR19, mo19_a, mo19_t, mo19_n, mo_fR20, mo20_a, mo20_t, mo20_n, mo_fR21, mo21_a, mo21_t, mo21_n, mo_fR22, mo22_a, mo22_t, mo22_n, mo_fR25, mo25_a, mo25_t, mo25_n, mo_fR26, mo26_a, mo26_t, mo26_n, mo_fR28, mo28_a, mo28_t, mo28_n, mo_fR29, mo29_a, mo29_t, mo29_n, mo_fR30, mo30_a, mo30_t, mo30_n, mo_fR33, mo33_a, mo33_t, mo33_n, mo_fR36, mo36_a, mo36_t, mo36_n, mo_fR37, mo37_a, mo37_t, mo37_n, mo_fR40, mo40_a, mo40_t, mo40_n, e1, e2, kt, x7', e3, f3]; first | done | omega)))))
        all_goals rfl
      · rw [c2.2.1 2 (by unfold Sq; omega)]; exact g2
theorem m_sentS {x : Nat × Tok × Cod × Say} (hN : 1200 < N) (hO : hOk H) (hn : nOk H W) (hm : MNm H W I L) (h : MT n T f I) (h9 : n ≤ 940) (hT : ∀ k, k < n → T k < 256) (hr : seR n T H W = .inr x) : ∃ J K, fX11_sentence N 186 (mk I L r) = some (i32 x.1, mk J K r) ∧ J 186 2 = i32 0 ∧ J 186 10 = i32 0 ∧ SM (J 188) 199 H (some x.2.2.2) ∧ (∀ k, k < 199 → J 188 k = I 188 k) ∧ (∀ z, z ≠ 186 → z ≠ 205 → z ≠ 188 → J z = I z) ∧ (∀ k, 14 ≤ k → (k < 41 ∨ 44 < k) → J 186 k = I 186 k) ∧ ∀ z, z ≠ 186 → K z = L z := by
  have kt : ¬ bi true = i32 0 := by decide
  have kf : bi false = i32 0 := rfl
  obtain ⟨J1, K1, J, K, e1, e2, g1, g2, g3, g4, g5⟩ := m_seP (N := N) (r := r) hN hO hn hm h h9 hT
  have ps := se_ok (W := W) hO h9 hT
  rw [hr] at ps
  unfold seR at hr
  cases hx : seP n T H W with
  | inl e' => rw [hx] at hr; cases hr
  | inr y =>
    rw [hx] at hr e2 g1
    dsimp only at hr
    by_cases c0 : y.2.1.1 = 0
    · rw [if_pos c0] at hr
      cases hr
      obtain ⟨p1, p2, p3, p4, p5, p6⟩ := ps
      have e2 : fX11_rd N 80 0 186 (mk (up (up (up J1 186 41 (i32 0)) 186 42 (i32 0)) 186 43 (i32 0)) K1 r) = some (bi true, mk J K r) := e2
      obtain ⟨b1, ⟨b2, j, b3, b4⟩, b5, b6, b7⟩ := g1
      have x7 : J 186 7 = i32 (kM x.2.1.1) := b1.2.1.1
      have x7' : J 186 7 = i32 0 := by rw [x7, c0]; rfl
      obtain ⟨J2, e3, c1, c2, c3⟩ := m_seL (N := N) (L := K) (r := r) 240 0 N (up (up J 188 199 (i32 1)) 188 200 (i32 j)) (by omega) (by omega)
      rw [up_row (by omega), up_row (by omega), b5] at e3
      have fr : ∀ z, z ≠ 188 → J2 z = J z := fun z hz => by rw [c3 z hz, up_row hz, up_row hz]
      refine ⟨J2, K, ?_, by rw [fr 186 (by omega)]; exact g2, by rw [fr 186 (by omega)]; exact b1.2.2.1, ⟨?_, j, ?_, ?_⟩, fun k hk => ?_, fun z z1 z2 z3 => by rw [fr z z3]; exact g3 z z1 z2, fun k z1 z2 => by rw [fr 186 (by omega)]; exact g4 k z1 z2, g5⟩
      · unfold fX11_sentence
        repeat (first | (with_reducible apply bd_eq; (focus (simp (disch := first | assumption | omega | rfl) only [i_rem, i_pred, i_addn1, i_lit, i_n1, i_add, i_mul, i_sub, i_le, i_lt, i_eq, i_ne1, n1_ne, n1_lt, n1_le, i_lt1, i_le1, bd_s, nar_bi, nar_0, nar_1, if_pos, if_neg, ↓reduceIte, reduceCtorEq, eq_self, if_true, if_false, not_true_eq_false, not_false_eq_true, mo_k, mo_fI, mo_fL, mo_pI, mo_pL, mo_z0, mo_z1, mo_fR1, mo1_a, mo1_t, mo1_n, mo_fR14, mo14_a, mo14_t, mo14_n, mo_fR15, mo15_a, mo15_t, mo15_n, mo_fR16, mo16_a, mo16_t, mo16_n, mo_fR17, mo17_a, mo17_t, mo17_n, mo_fR18, mo18_a, mo18_t, mo18_n, mo_fR19, mo19_a, mo19_t, mo19_n, mo_fR20, mo20_a, mo20_t, mo20_n, mo_fR21, mo21_a, mo21_t, mo21_n, mo_fR22, mo22_a, mo22_t, mo22_n, mo_fR25, mo25_a, mo25_t, mo25_n, mo_fR26, mo26_a, mo26_t, mo26_n, mo_fR28, mo28_a, mo28_t, mo28_n, mo_fR29, mo29_a, mo29_t, mo29_n, mo_fR30, mo30_a, mo30_t, mo30_n, mo_fR33, mo33_a, mo33_t, mo33_n, mo_fR36, mo36_a, mo36_t, mo36_n, mo_fR37, mo37_a, mo37_t, mo37_n, mo_fR40, mo40_a, mo40_t, mo40_n, e1, e2, kt, x7', up_off, b3, e3]; first | done | (with_reducible rfl; done))); try dsimp only) | (with_reducible apply it_p; (focus (first | assumption | (simp (disch := first | assumption | omega | rfl) only [i_rem, i_pred, i_addn1, i_lit, i_n1, i_add, i_mul, i_sub, i_le, i_lt, i_eq, i_ne1, n1_ne, n1_lt, n1_le, i_lt1, i_le1, bd_s, nar_bi, nar_0, nar_1, if_pos, if_neg, ↓reduceIte, reduceCtorEq, eq_self, if_true, if_false, not_true_eq_false, not_false_eq_true, mo_k, mo_fI, mo_fL, mo_pI, mo_pL, mo_z0, mo_z1, mo_fR1, mo1_a, mo1_t, mo1_n, mo_fR14, mo14_a, mo14_t, mo14_n, mo_fR15, mo15_a, mo15_t, mo15_n, mo_fR16, mo16_a, mo16_t, mo16_n, mo_fR17, mo17_a, mo17_t, mo17_n, mo_fR18, mo18_a, mo18_t, mo18_n, mo_fR19, mo19_a, mo19_t, mo19_n, mo_fR20, mo20_a, mo20_t, mo20_n, mo_fR21, mo21_a, mo21_t, mo21_n, mo_fR22, mo22_a, mo22_t, mo22_n, mo_fR25, mo25_a, mo25_t, mo25_n, mo_fR26, mo26_a, mo26_t, mo26_n, mo_fR28, mo28_a, mo28_t, mo28_n, mo_fR29, mo29_a, mo29_t, mo29_n, mo_fR30, mo30_a, mo30_t, mo30_n, mo_fR33, mo33_a, mo33_t, mo33_n, mo_fR36, mo36_a, mo36_t, mo36_n, mo_fR37, mo37_a, mo37_t, mo37_n, mo_fR40, mo40_a, mo40_t, mo40_n, e1, e2, kt, x7', up_off, b3, e3]; first | done | omega)))) | (with_reducible apply it_n; (focus (first | assumption | (simp (disch := first | assumption | omega | rfl) only [i_rem, i_pred, i_addn1, i_lit, i_n1, i_add, i_mul, i_sub, i_le, i_lt, i_eq, i_ne1, n1_ne, n1_lt, n1_le, i_lt1, i_le1, bd_s, nar_bi, nar_0, nar_1, if_pos, if_neg, ↓reduceIte, reduceCtorEq, eq_self, if_true, if_false, not_true_eq_false, not_false_eq_true, mo_k, mo_fI, mo_fL, mo_pI, mo_pL, mo_z0, mo_z1, mo_fR1, mo1_a, mo1_t, mo1_n, mo_fR14, mo14_a, mo14_t, mo14_n, mo_fR15, mo15_a, mo15_t, mo15_n, mo_fR16, mo16_a, mo16_t, mo16_n, mo_fR17, mo17_a, mo17_t, mo17_n, mo_fR18, mo18_a, mo18_t, mo18_n, mo_fR19, mo19_a, mo19_t, mo19_n, mo_fR20, mo20_a, mo20_t, mo20_n, mo_fR21, mo21_a, mo21_t, mo21_n, mo_fR22, mo22_a, mo22_t, mo22_n, mo_fR25, mo25_a, mo25_t, mo25_n, mo_fR26, mo26_a, mo26_t, mo26_n, mo_fR28, mo28_a, mo28_t, mo28_n, mo_fR29, mo29_a, mo29_t, mo29_n, mo_fR30, mo30_a, mo30_t, mo30_n, mo_fR33, mo33_a, mo33_t, mo33_n, mo_fR36, mo36_a, mo36_t, mo36_n, mo_fR37, mo37_a, mo37_t, mo37_n, mo_fR40, mo40_a, mo40_t, mo40_n, e1, e2, kt, x7', up_off, b3, e3]; first | done | omega)))))
        all_goals rfl
      · rw [c2 199 (by omega), up_ofk (by omega), up_self]
      · rw [c2 200 (by omega), up_self]
      · refine nd2_nd (g := J 205) 60 j _ (by omega) (fun i hi => ?_) ?_
        · rw [c1 i (by omega) (by omega), up_row (by omega), up_row (by omega)]
        · have := nd2_m b4 (60 - (0 + x.2.2.1.length))
          rw [show 0 + x.2.2.1.length + (60 - (0 + x.2.2.1.length)) = 60 by omega] at this
          exact this
      · rw [c2 k (by omega), up_ofk (by omega), up_ofk (by omega), g3 188 (by omega) (by omega)]
    · rw [if_neg c0] at hr; cases hr
theorem q_sentence (hN : 1200 < N) (h : Ok I L) : Step2 (fX10_sentence N 0) (fX11_sentence N 186) I L r := by
  obtain ⟨⟨H, W, B, D⟩, G, s, P, n, T, f, E, hC, hM, hI⟩ := h
  have hO : hOk H := hI.1.1
  have hB : bOk H B := hI.1.2.2
  have hs : RS 4 H I := hC.1.1
  have hb : BR 26 B I := hC.1.2.2.1
  have hm : MR H B (up I 186 0 (i32 0)) := WM_R (WM_t hM)
  have ha : isBe 26 = true := rfl
  have o0 := hO.1; have o1 := hO.2.1; have o2 := hO.2.2.1; have o3 := hO.2.2.2.1; have o4 := hO.2.2.2.2.1; have o5 := hO.2.2.2.2.2.1
  have hn := hI.1.2.1
  have hw : NS 4 H W L := hC.1.2.1
  have ct := hC.2.2.2.1
  have hT := hI.2.2.2
  have n9 := ct.2.1
  cases hr : seR n T H W with
  | inl e =>
    obtain ⟨J1, K1, e1, a1, a2, a3, a5⟩ := c_sentF (N := N) (r := r) hN hO hn hs hw ct hT hr
    have mt : MT n T f J1 := by
      have := hM.2.2.2.1
      unfold MT at *; rw [a3 186 (by omega) (by omega), a3 187 (by omega) (by omega)]; exact this
    have mn : MNm H W J1 K1 := MNm_of (by rw [a3 188 (by omega) (by omega)]; exact hM.1.1) (by rw [a5 193 (by omega)]; exact hM.1.2.1)
    obtain ⟨J2, K2, e2, b1, b2, b3, b4, b5⟩ := m_sentF (N := N) (r := r) hN hO hn mn mt n9 hT hr
    have fr : ∀ z, z ≠ 1 → z ≠ 186 → z ≠ 205 → (z < 119 ∨ 124 ≤ z) → J2 z = I z := fun z z1 z2 z3 z4 => by rw [b3 z z2 z3, a3 z z1 z4]
    have frL : ∀ z, z ≠ 1 → z ≠ 186 → K2 z = L z := fun z z1 z2 => by rw [b5 z z2, a5 z z1]
    have r1 : J2 1 = J1 1 := b3 1 (by omega) (by omega)
    refine ⟨-(i32 1) - i32 e.2, J1, K1, r, J2, K2, e1, e2, (H, W, B, D), G, s, P, 0, T, i32 e.1, E, ?_, ?_, hI.1, hI.2.1, hI.2.2.1, fun k hk => absurd hk (Nat.not_lt_zero _)⟩
    · obtain ⟨⟨h1, h2, h3, h4, h9⟩, h5, h6, h7, h8⟩ := hC
      refine ⟨⟨RS_of (fun q z1 z2 => fr q (by omega) (by omega) (by omega) (by omega)) h1, NS_of (fun q z1 z2 => frL q (by omega) (by omega)) h2, BR_of (fun q z1 z2 => fr q (by omega) (by omega) (by omega) (by omega)) h3, SS_of (fun q z1 z2 => fr q (by omega) (by omega) (by omega) (by omega)) h4, LT_of (fr _ (by omega) (by omega) (by omega) (by omega)) h9⟩, PR_of (fun q z1 z2 => fr q (by omega) (by omega) (by omega) (by omega)) h5, fun k hk => CG_of hk (fun q z1 z2 => fr q (by omega) (by omega) (by omega) (by omega)) (fun q z1 z2 => frL q (by omega) (by omega)) (h6 k hk), ⟨by rw [r1]; exact a1, by omega, by rw [r1]; exact a2, fun k hk => absurd hk (Nat.not_lt_zero _), fun k hk => by rw [frL 3 (by omega) (by omega)]; exact h7.2.2.2.2 k hk⟩, ?_⟩
      exact CE_of (fr _ (by omega) (by omega) (by omega) (by omega)) (fr _ (by omega) (by omega) (by omega) (by omega)) (fr _ (by omega) (by omega) (by omega) (by omega)) (fr _ (by omega) (by omega) (by omega) (by omega)) (fr _ (by omega) (by omega) (by omega) (by omega)) h8
    · refine WM_tp (fun q hq => fr q (by omega) (by omega) (by omega) (by omega)) (fun k hk => by rw [b4 k (by omega) (by omega), a3 186 (by omega) (by omega)]) (frL 193 (by omega) (by omega)) (frL 195 (by omega) (by omega)) ⟨b1, b2, fun k hk => absurd hk (Nat.not_lt_zero _)⟩ hM
  | inr x =>
    obtain ⟨J1, K1, e1, a1, a2, a4, a3, a5⟩ := c_sentS (N := N) (r := r) hN hO hn hs hw ct hT hr
    have mt : MT n T f J1 := by
      have := hM.2.2.2.1
      unfold MT at *; rw [a3 186 (by omega) (by omega), a3 187 (by omega) (by omega)]; exact this
    have mn : MNm H W J1 K1 := MNm_of (by rw [a3 188 (by omega) (by omega)]; exact hM.1.1) (by rw [a5 193 (by omega)]; exact hM.1.2.1)
    obtain ⟨J2, K2, e2, b1, b2, b6, b7, b3, b4, b5⟩ := m_sentS (N := N) (r := r) hN hO hn mn mt n9 hT hr
    have fr : ∀ z, z ≠ 1 → z ≠ 186 → z ≠ 205 → z ≠ 188 → (z < 114 ∨ 124 ≤ z) → J2 z = I z := fun z z1 z2 z3 z5 z4 => by rw [b3 z z2 z3 z5, a3 z z1 z4]
    have fr0 : ∀ z, z < 186 → J2 z = J1 z := fun z z1 => b3 z (by omega) (by omega) (by omega)
    have frL : ∀ z, z ≠ 1 → z ≠ 186 → K2 z = L z := fun z z1 z2 => by rw [b5 z z2, a5 z z1]
    have r1 : J2 1 = J1 1 := fr0 1 (by omega)
    have r8 : ∀ k, k < 199 → J2 188 k = I 188 k := fun k hk => by rw [b7 k hk, a3 188 (by omega) (by omega)]
    refine ⟨i32 x.1, J1, K1, r, J2, K2, e1, e2, (H, W, B, some x.2.2.2), G, s, P, 0, T, i32 0, E, ?_, ?_, hI.1, hI.2.1, hI.2.2.1, fun k hk => absurd hk (Nat.not_lt_zero _)⟩
    · obtain ⟨⟨h1, h2, h3, h4, h9⟩, h5, h6, h7, h8⟩ := hC
      refine ⟨⟨RS_of (fun q z1 z2 => fr q (by omega) (by omega) (by omega) (by omega) (by omega)) h1, NS_of (fun q z1 z2 => frL q (by omega) (by omega)) h2, BR_of (fun q z1 z2 => fr q (by omega) (by omega) (by omega) (by omega) (by omega)) h3, SS_of (fun q z1 z2 => fr0 q (by omega)) a4, LT_of (fr _ (by omega) (by omega) (by omega) (by omega) (by omega)) h9⟩, PR_of (fun q z1 z2 => fr q (by omega) (by omega) (by omega) (by omega) (by omega)) h5, fun k hk => CG_of hk (fun q z1 z2 => fr q (by omega) (by omega) (by omega) (by omega) (by omega)) (fun q z1 z2 => frL q (by omega) (by omega)) (h6 k hk), ⟨by rw [r1]; exact a1, by omega, by rw [r1]; exact a2, fun k hk => absurd hk (Nat.not_lt_zero _), fun k hk => by rw [frL 3 (by omega) (by omega)]; exact h7.2.2.2.2 k hk⟩, ?_⟩
      exact CE_of (fr _ (by omega) (by omega) (by omega) (by omega) (by omega)) (fr _ (by omega) (by omega) (by omega) (by omega) (by omega)) (fr _ (by omega) (by omega) (by omega) (by omega) (by omega)) (fr _ (by omega) (by omega) (by omega) (by omega) (by omega)) (fr _ (by omega) (by omega) (by omega) (by omega) (by omega)) h8
    · have hM' : WM (H, W, B, D) G s P 0 T (i32 0) E (fun z => if z = 188 then I 188 else J2 z) K2 := by
        refine WM_tp (fun q hq => ?_) (fun k hk => ?_) (frL 193 (by omega) (by omega)) (frL 195 (by omega) (by omega)) ⟨?_, ?_, fun k hk => absurd hk (Nat.not_lt_zero _)⟩ hM
        · by_cases c8 : q = 188
          · rw [if_pos c8, c8]
          · rw [if_neg c8]; exact fr q (by omega) (by omega) (by omega) c8 (by omega)
        · rw [if_neg (by omega), b4 k (by omega) (by omega), a3 186 (by omega) (by omega)]
        · dsimp only; rw [if_neg (by omega)]; exact b1
        · dsimp only; rw [if_neg (by omega)]; exact b2
      obtain ⟨⟨h1, h2, h3, h4⟩, h5, h6, h7, h8⟩ := hM'
      obtain ⟨⟨y1, y2, y3, y4⟩, _⟩ := hM
      refine ⟨⟨MH_of hO (fun k hk => by rw [Nat.zero_add]; exact r8 k (by omega)) y1, h2, fun k hk => ?_, b6⟩, h5, h6, h7, h8⟩
      have := y3 k hk
      dsimp only at this ⊢
      rw [← this]; exact r8 _ (by omega)
end
