section
variable {H : Nat → Nat} {B : Nat → Int32} {F : Nat → Nat} {I : Nat → Nat → Int32} {L : Nat → Nat → Int64} {r : Bool} {N : Nat}
theorem us_dc {b n : Nat} (hO : hOk H) (hF : fOk H F) (hb : b < H 0) (hn : 1 ≤ n) (hf : n ≤ F b) : bset (usP H F) (H 0) ||| (i32 1 <<< (i32 b &&& i32 31)) = bset (usP H (dc F b n)) (H 0) := by
  have o0 := hO.1
  have hFb := hF b hb
  rw [bset_6 (P := usP H F) o0, bset_6 (P := usP H (dc F b n)) o0, bset_set (by omega)]
  refine bset_congr (fun k hk => ?_)
  by_cases hkb : k = b
  · subst hkb
    rw [usP, usP, dc, if_pos rfl, decide_eq_false (show ¬ F k - n = H (11 + k) by omega)]
    simp [hb]
  · rw [usP, usP, dc, if_neg hkb]
    simp [hkb]
theorem m_hasRoom (hN : 1200 < N) (hO : hOk H) (hm : MR H B I) {m : Nat} (h6 : m ≤ 6) : ∀ q, q ≤ H 2 → ∀ d, q < d → ∀ (F : Nat → Nat) (J : Nat → Nat → Int32), fOk H F → uc H F ≤ m → (∀ b, b < H 0 → J 201 b = i32 (F b)) → (∀ z, z ≠ 199 → z ≠ 201 → J z = I z) → ∃ K, fX11_hasRoomFrom N d 186 (i32 (H 2 - q)) (bset (usP H F) (H 0)) (i32 m) (mk J L r) = some (bi (rP H B q F m).isSome, mk K L r) ∧ (∀ b, b < H 0 → K 201 b = i32 (F b)) ∧ (∀ z, z ≠ 199 → z ≠ 201 → K z = I z) ∧ (∀ j, j < H 2 - q → K 199 j = J 199 j) ∧ ∀ a, rP H B q F m = some a → ∀ j, H 2 - q ≤ j → j < H 2 → K 199 j = a j := by
  have o0 := hO.1; have o1 := hO.2.1; have o2 := hO.2.2.1; have o3 := hO.2.2.2.1; have o4 := hO.2.2.2.2.1; have o5 := hO.2.2.2.2.2.1
  intro q
  induction q with
  | zero =>
    intro _ d hd F J hF hu j1 j2
    obtain ⟨d, rfl⟩ : ∃ d', d = d' + 1 := ⟨d - 1, by omega⟩
    have hmJ : MR H B J := by unfold MR; rw [j2 188 (by omega) (by omega)]; exact hm
    have e : rP H B 0 F m = some (fun _ => n1) := by rw [rP, if_pos hu]
    refine ⟨J, ?_, j1, j2, fun _ _ => rfl, fun a _ j z1 z2 => by omega⟩
    rw [e]
    simp (disch := first | assumption | omega | rfl) only [i_rem, i_pred, i_addn1, i_lit, i_n1, i_add, i_mul, i_sub, i_le, i_lt, i_eq, i_ne1, n1_ne, n1_lt, n1_le, i_lt1, i_le1, bd_s, nar_bi, nar_0, nar_1, if_pos, if_neg, ↓reduceIte, reduceCtorEq, eq_self, if_true, if_false, not_true_eq_false, not_false_eq_true, mo_k, mo_fI, mo_fL, mo_pI, mo_pL, mo_z0, mo_z1, mo_fR1, mo1_a, mo1_t, mo1_n, mo_fR14, mo14_a, mo14_t, mo14_n, mo_fR15, mo15_a, mo15_t, mo15_n, mo_fR16, mo16_a, mo16_t, mo16_n, mo_fR17, mo17_a, mo17_t, mo17_n, mo_fR18, mo18_a, mo18_t, mo18_n, mo_fR19, mo19_a, mo19_t, mo19_n, mo_fR20, mo20_a, mo20_t, mo20_n, mo_fR21, mo21_a, mo21_t, mo21_n, mo_fR22, mo22_a, mo22_t, mo22_n, mo_fR25, mo25_a, mo25_t, mo25_n, mo_fR26, mo26_a, mo26_t, mo26_n, mo_fR28, mo28_a, mo28_t, mo28_n, mo_fR29, mo29_a, mo29_t, mo29_n, mo_fR30, mo30_a, mo30_t, mo30_n, mo_fR33, mo33_a, mo33_t, mo33_n, mo_fR36, mo36_a, mo36_t, mo36_n, mo_fR37, mo37_a, mo37_t, mo37_n, mo_fR40, mo40_a, mo40_t, mo40_n, fX11_hasRoomFrom, fX11_hasRoomFrom_b, m_nl hmJ, Nat.sub_zero]
    rfl
  | succ q ih =>
    intro hq d hd F J hF hu j1 j2
    obtain ⟨d, rfl⟩ : ∃ d', d = d' + 1 := ⟨d - 1, by omega⟩
    have en : H 2 - (q + 1) + 1 = H 2 - q := by omega
    have hlq : H 2 - (q + 1) < H 2 := by omega
    have l2 := lg_2 (H := H) (l := H 2 - (q + 1))
    have l3 := lg_3 (H := H) (l := H 2 - (q + 1))
    have hmJ : MR H B J := by unfold MR; rw [j2 188 (by omega) (by omega)]; exact hm
    have hmJ1 : MR H B (up J 199 (H 2 - (q + 1)) n1) := by unfold MR; rw [up_row (by omega)]; exact hmJ
    have e0 := m_has (N := N) (B := B) (l := H 2 - (q + 1)) (M := mk (up J 199 (H 2 - (q + 1)) n1) L r)
    have p1 : ∀ b, b < H 0 → up J 199 (H 2 - (q + 1)) n1 201 b = i32 (F b) := fun b hb => by rw [up_row (by omega)]; exact j1 b hb
    have p2 : ∀ z, z ≠ 199 → z ≠ 201 → up J 199 (H 2 - (q + 1)) n1 z = I z := fun z z1 z2 => by rw [up_row z1]; exact j2 z z1 z2
    have hne : ¬ i32 (H 2 - (q + 1)) = i32 (H 2) := by rw [i_eq (by omega) (by omega)]; omega
    cases hl : lpd B (H 2 - (q + 1)) with
    | true =>
      obtain ⟨K, e1, k1, k2, k3, k4⟩ := ih (by omega) d (by omega) F (up J 199 (H 2 - (q + 1)) n1) hF hu p1 p2
      rw [hl] at e0
      rw [← en] at e1
      refine ⟨K, ?_, k1, k2, fun j hj => by rw [k3 j (by omega), up_ofk (by omega)], fun a ha j z1 z2 => ?_⟩
      · rw [rP_l hl]
        rw [fX11_hasRoomFrom]
        unfold fX11_hasRoomFrom_b
        repeat (first | (apply bd_eq; (focus (simp (disch := first | assumption | omega | rfl) only [i_rem, i_pred, i_addn1, i_lit, i_n1, i_add, i_mul, i_sub, i_le, i_lt, i_eq, i_ne1, n1_ne, n1_lt, n1_le, i_lt1, i_le1, bd_s, nar_bi, nar_0, nar_1, if_pos, if_neg, ↓reduceIte, reduceCtorEq, eq_self, if_true, if_false, not_true_eq_false, not_false_eq_true, mo_k, mo_fI, mo_fL, mo_pI, mo_pL, mo_z0, mo_z1, mo_fR1, mo1_a, mo1_t, mo1_n, mo_fR14, mo14_a, mo14_t, mo14_n, mo_fR15, mo15_a, mo15_t, mo15_n, mo_fR16, mo16_a, mo16_t, mo16_n, mo_fR17, mo17_a, mo17_t, mo17_n, mo_fR18, mo18_a, mo18_t, mo18_n, mo_fR19, mo19_a, mo19_t, mo19_n, mo_fR20, mo20_a, mo20_t, mo20_n, mo_fR21, mo21_a, mo21_t, mo21_n, mo_fR22, mo22_a, mo22_t, mo22_n, mo_fR25, mo25_a, mo25_t, mo25_n, mo_fR26, mo26_a, mo26_t, mo26_n, mo_fR28, mo28_a, mo28_t, mo28_n, mo_fR29, mo29_a, mo29_t, mo29_n, mo_fR30, mo30_a, mo30_t, mo30_n, mo_fR33, mo33_a, mo33_t, mo33_n, mo_fR36, mo36_a, mo36_t, mo36_n, mo_fR37, mo37_a, mo37_t, mo37_n, mo_fR40, mo40_a, mo40_t, mo40_n, m_nl hmJ, hne, m_lp hmJ1, e0, bi_z, e1]; first | done | (with_reducible rfl; done))); try dsimp only) | (apply it_p; (focus (first | assumption | (simp (disch := first | assumption | omega | rfl) only [i_rem, i_pred, i_addn1, i_lit, i_n1, i_add, i_mul, i_sub, i_le, i_lt, i_eq, i_ne1, n1_ne, n1_lt, n1_le, i_lt1, i_le1, bd_s, nar_bi, nar_0, nar_1, if_pos, if_neg, ↓reduceIte, reduceCtorEq, eq_self, if_true, if_false, not_true_eq_false, not_false_eq_true, mo_k, mo_fI, mo_fL, mo_pI, mo_pL, mo_z0, mo_z1, mo_fR1, mo1_a, mo1_t, mo1_n, mo_fR14, mo14_a, mo14_t, mo14_n, mo_fR15, mo15_a, mo15_t, mo15_n, mo_fR16, mo16_a, mo16_t, mo16_n, mo_fR17, mo17_a, mo17_t, mo17_n, mo_fR18, mo18_a, mo18_t, mo18_n, mo_fR19, mo19_a, mo19_t, mo19_n, mo_fR20, mo20_a, mo20_t, mo20_n, mo_fR21, mo21_a, mo21_t, mo21_n, mo_fR22, mo22_a, mo22_t, mo22_n, mo_fR25, mo25_a, mo25_t, mo25_n, mo_fR26, mo26_a, mo26_t, mo26_n, mo_fR28, mo28_a, mo28_t, mo28_n, mo_fR29, mo29_a, mo29_t, mo29_n, mo_fR30, mo30_a, mo30_t, mo30_n, mo_fR33, mo33_a, mo33_t, mo33_n, mo_fR36, mo36_a, mo36_t, mo36_n, mo_fR37, mo37_a, mo37_t, mo37_n, mo_fR40, mo40_a, mo40_t, mo40_n, m_nl hmJ, hne, m_lp hmJ1, e0, bi_z, e1]; first | done | omega)))) | (apply it_n; (focus (first | assumption | (simp (disch := first | assumption | omega | rfl) only [i_rem, i_pred, i_addn1, i_lit, i_n1, i_add, i_mul, i_sub, i_le, i_lt, i_eq, i_ne1, n1_ne, n1_lt, n1_le, i_lt1, i_le1, bd_s, nar_bi, nar_0, nar_1, if_pos, if_neg, ↓reduceIte, reduceCtorEq, eq_self, if_true, if_false, not_true_eq_false, not_false_eq_true, mo_k, mo_fI, mo_fL, mo_pI, mo_pL, mo_z0, mo_z1, mo_fR1, mo1_a, mo1_t, mo1_n, mo_fR14, mo14_a, mo14_t, mo14_n, mo_fR15, mo15_a, mo15_t, mo15_n, mo_fR16, mo16_a, mo16_t, mo16_n, mo_fR17, mo17_a, mo17_t, mo17_n, mo_fR18, mo18_a, mo18_t, mo18_n, mo_fR19, mo19_a, mo19_t, mo19_n, mo_fR20, mo20_a, mo20_t, mo20_n, mo_fR21, mo21_a, mo21_t, mo21_n, mo_fR22, mo22_a, mo22_t, mo22_n, mo_fR25, mo25_a, mo25_t, mo25_n, mo_fR26, mo26_a, mo26_t, mo26_n, mo_fR28, mo28_a, mo28_t, mo28_n, mo_fR29, mo29_a, mo29_t, mo29_n, mo_fR30, mo30_a, mo30_t, mo30_n, mo_fR33, mo33_a, mo33_t, mo33_n, mo_fR36, mo36_a, mo36_t, mo36_n, mo_fR37, mo37_a, mo37_t, mo37_n, mo_fR40, mo40_a, mo40_t, mo40_n, m_nl hmJ, hne, m_lp hmJ1, e0, bi_z, e1]; first | done | omega)))))
        all_goals rfl
      · rw [rP_l hl] at ha
        by_cases hj : j = H 2 - (q + 1)
        · rw [hj, k3 _ (by omega), up_self, rP_in q F a (by omega) ha _ (Or.inl (by omega))]
        · exact k4 a ha j (by omega) z2
    | false =>
      rw [hl] at e0
      obtain ⟨ρ, e1, K, rfl, k1, k2, k3, k4⟩ := lp_in (F := fun n (s : Int32 × (Nat → Nat → Int32)) => fX11_hasRoomFrom_L46 N (fX11_hasRoomFrom N d) 186 (i32 (H 2 - (q + 1))) (bset (usP H F) (H 0)) (i32 m) n s.1 (mk s.2 L r)) (m := H 0) (fun k s => s.1 = i32 k ∧ (∀ b, b < H 0 → s.2 201 b = i32 (F b)) ∧ (∀ z, z ≠ 199 → z ≠ 201 → s.2 z = I z) ∧ (∀ j, j < H 2 - (q + 1) → s.2 199 j = J 199 j) ∧ ∀ b, b < k → Qb H B q F b m = false) (fun ρ => ∃ K, ρ = (bi (rP H B (q + 1) F m).isSome, mk K L r) ∧ (∀ b, b < H 0 → K 201 b = i32 (F b)) ∧ (∀ z, z ≠ 199 → z ≠ 201 → K z = I z) ∧ (∀ j, j < H 2 - (q + 1) → K 199 j = J 199 j) ∧ ∀ a, rP H B (q + 1) F m = some a → ∀ j, H 2 - (q + 1) ≤ j → j < H 2 → K 199 j = a j) (fun n k s hk hs => by
        obtain ⟨u, J2⟩ := s
        obtain ⟨h1, h2, h3, h4, h5⟩ := hs
        dsimp only at h1 h2 h3 h4 ⊢
        subst h1
        have hmJ2 : MR H B J2 := by unfold MR; rw [h3 188 (by omega) (by omega)]; exact hm
        by_cases hk0 : k = H 0
        · subst hk0
          have er : rP H B (q + 1) F m = none := rP_n hl h5
          refine Or.inl ⟨(i32 0, mk J2 L r), ?_, J2, by rw [er]; rfl, h2, h3, h4, fun a ha => by rw [er] at ha; cases ha⟩
          rw [fX11_hasRoomFrom_L46]
          repeat (first | (apply bd_eq; (focus (simp (disch := first | assumption | omega | rfl) only [i_rem, i_pred, i_addn1, i_lit, i_n1, i_add, i_mul, i_sub, i_le, i_lt, i_eq, i_ne1, n1_ne, n1_lt, n1_le, i_lt1, i_le1, bd_s, nar_bi, nar_0, nar_1, if_pos, if_neg, ↓reduceIte, reduceCtorEq, eq_self, if_true, if_false, not_true_eq_false, not_false_eq_true, mo_k, mo_fI, mo_fL, mo_pI, mo_pL, mo_z0, mo_z1, mo_fR1, mo1_a, mo1_t, mo1_n, mo_fR14, mo14_a, mo14_t, mo14_n, mo_fR15, mo15_a, mo15_t, mo15_n, mo_fR16, mo16_a, mo16_t, mo16_n, mo_fR17, mo17_a, mo17_t, mo17_n, mo_fR18, mo18_a, mo18_t, mo18_n, mo_fR19, mo19_a, mo19_t, mo19_n, mo_fR20, mo20_a, mo20_t, mo20_n, mo_fR21, mo21_a, mo21_t, mo21_n, mo_fR22, mo22_a, mo22_t, mo22_n, mo_fR25, mo25_a, mo25_t, mo25_n, mo_fR26, mo26_a, mo26_t, mo26_n, mo_fR28, mo28_a, mo28_t, mo28_n, mo_fR29, mo29_a, mo29_t, mo29_n, mo_fR30, mo30_a, mo30_t, mo30_n, mo_fR33, mo33_a, mo33_t, mo33_n, mo_fR36, mo36_a, mo36_t, mo36_n, mo_fR37, mo37_a, mo37_t, mo37_n, mo_fR40, mo40_a, mo40_t, mo40_n, m_nb hmJ2]; first | done | (with_reducible rfl; done))); try dsimp only) | (apply it_p; (focus (first | assumption | (simp (disch := first | assumption | omega | rfl) only [i_rem, i_pred, i_addn1, i_lit, i_n1, i_add, i_mul, i_sub, i_le, i_lt, i_eq, i_ne1, n1_ne, n1_lt, n1_le, i_lt1, i_le1, bd_s, nar_bi, nar_0, nar_1, if_pos, if_neg, ↓reduceIte, reduceCtorEq, eq_self, if_true, if_false, not_true_eq_false, not_false_eq_true, mo_k, mo_fI, mo_fL, mo_pI, mo_pL, mo_z0, mo_z1, mo_fR1, mo1_a, mo1_t, mo1_n, mo_fR14, mo14_a, mo14_t, mo14_n, mo_fR15, mo15_a, mo15_t, mo15_n, mo_fR16, mo16_a, mo16_t, mo16_n, mo_fR17, mo17_a, mo17_t, mo17_n, mo_fR18, mo18_a, mo18_t, mo18_n, mo_fR19, mo19_a, mo19_t, mo19_n, mo_fR20, mo20_a, mo20_t, mo20_n, mo_fR21, mo21_a, mo21_t, mo21_n, mo_fR22, mo22_a, mo22_t, mo22_n, mo_fR25, mo25_a, mo25_t, mo25_n, mo_fR26, mo26_a, mo26_t, mo26_n, mo_fR28, mo28_a, mo28_t, mo28_n, mo_fR29, mo29_a, mo29_t, mo29_n, mo_fR30, mo30_a, mo30_t, mo30_n, mo_fR33, mo33_a, mo33_t, mo33_n, mo_fR36, mo36_a, mo36_t, mo36_n, mo_fR37, mo37_a, mo37_t, mo37_n, mo_fR40, mo40_a, mo40_t, mo40_n, m_nb hmJ2]; first | done | omega)))) | (apply it_n; (focus (first | assumption | (simp (disch := first | assumption | omega | rfl) only [i_rem, i_pred, i_addn1, i_lit, i_n1, i_add, i_mul, i_sub, i_le, i_lt, i_eq, i_ne1, n1_ne, n1_lt, n1_le, i_lt1, i_le1, bd_s, nar_bi, nar_0, nar_1, if_pos, if_neg, ↓reduceIte, reduceCtorEq, eq_self, if_true, if_false, not_true_eq_false, not_false_eq_true, mo_k, mo_fI, mo_fL, mo_pI, mo_pL, mo_z0, mo_z1, mo_fR1, mo1_a, mo1_t, mo1_n, mo_fR14, mo14_a, mo14_t, mo14_n, mo_fR15, mo15_a, mo15_t, mo15_n, mo_fR16, mo16_a, mo16_t, mo16_n, mo_fR17, mo17_a, mo17_t, mo17_n, mo_fR18, mo18_a, mo18_t, mo18_n, mo_fR19, mo19_a, mo19_t, mo19_n, mo_fR20, mo20_a, mo20_t, mo20_n, mo_fR21, mo21_a, mo21_t, mo21_n, mo_fR22, mo22_a, mo22_t, mo22_n, mo_fR25, mo25_a, mo25_t, mo25_n, mo_fR26, mo26_a, mo26_t, mo26_n, mo_fR28, mo28_a, mo28_t, mo28_n, mo_fR29, mo29_a, mo29_t, mo29_n, mo_fR30, mo30_a, mo30_t, mo30_n, mo_fR33, mo33_a, mo33_t, mo33_n, mo_fR36, mo36_a, mo36_t, mo36_n, mo_fR37, mo37_a, mo37_t, mo37_n, mo_fR40, mo40_a, mo40_t, mo40_n, m_nb hmJ2]; first | done | omega)))))
          all_goals rfl
        · have hk1 : k < H 0 := by omega
          have wd_k := hO.2.2.2.2.2.2.1 k (by assumption)
          have hFk := hF k hk1
          have kn : ¬ i32 (H 0) ≤ i32 k := by rw [i_le (by omega) (by omega)]; omega
          by_cases hf : lg H (H 2 - (q + 1)) ≤ F k
          · have us := us_dc hO hF hk1 (show 1 ≤ lg H (H 2 - (q + 1)) by omega) hf
            have eb : ∀ M : Mem, fX11_bits N (bset (usP H (dc F k (lg H (H 2 - (q + 1))))) (H 0)) M = some (i32 (uc H (dc F k (lg H (H 2 - (q + 1))))), M) := fun M => m_bits hN o0
            have uH := uc_H0 (H := H) (F := dc F k (lg H (H 2 - (q + 1))))
            have hQ : Qb H B q F k m = (rP H B q (dc F k (lg H (H 2 - (q + 1)))) m).isSome := by
              unfold Qb; rw [decide_eq_true hf, Bool.true_and]
            have kf : ¬ i32 (F k) < i32 (lg H (H 2 - (q + 1))) := by rw [i_lt (by omega) (by omega)]; omega
            by_cases hc : uc H (dc F k (lg H (H 2 - (q + 1)))) ≤ m
            · have kc : i32 (uc H (dc F k (lg H (H 2 - (q + 1))))) ≤ i32 m := by rw [i_le (by omega) (by omega)]; omega
              have w1 : ∀ b, b < H 0 → up (up J2 199 (H 2 - (q + 1)) (i32 k)) 201 k (i32 (F k - lg H (H 2 - (q + 1)))) 201 b = i32 (dc F k (lg H (H 2 - (q + 1))) b) := fun b hb => by
                rw [up_at, dc]
                by_cases hbk : b = k
                · rw [if_pos hbk, if_pos hbk]
                · rw [if_neg hbk, if_neg hbk, up_row (by omega)]; exact h2 b hb
              have w2 : ∀ z, z ≠ 199 → z ≠ 201 → up (up J2 199 (H 2 - (q + 1)) (i32 k)) 201 k (i32 (F k - lg H (H 2 - (q + 1)))) z = I z := fun z z1 z2 => by
                rw [up_row z2, up_row z1]; exact h3 z z1 z2
              obtain ⟨K, e2, k1, k2, k3, k4⟩ := ih (by omega) d (by omega) (dc F k (lg H (H 2 - (q + 1)))) _ (fOk_dc hF) hc w1 w2
              rw [← en] at e2
              have hm3 : MR H B (up J2 199 (H 2 - (q + 1)) (i32 k)) := by unfold MR; rw [up_row (by omega)]; exact hmJ2
              have hmK : MR H B K := by unfold MR; rw [k2 188 (by omega) (by omega)]; exact hm
              have kk : K 201 k = i32 (F k - lg H (H 2 - (q + 1))) := by rw [k1 k hk1, dc, if_pos rfl]
              have es : F k - lg H (H 2 - (q + 1)) + lg H (H 2 - (q + 1)) = F k := by omega
              have q1 : ∀ b, b < H 0 → up K 201 k (i32 (F k)) 201 b = i32 (F b) := fun b hb => by
                rw [up_at]
                by_cases hbk : b = k
                · rw [if_pos hbk, hbk]
                · rw [if_neg hbk, k1 b hb, dc, if_neg hbk]
              have q2 : ∀ z, z ≠ 199 → z ≠ 201 → up K 201 k (i32 (F k)) z = I z := fun z z1 z2 => by rw [up_row z2]; exact k2 z z1 z2
              have q3 : ∀ j, j < H 2 - (q + 1) → up K 201 k (i32 (F k)) 199 j = J 199 j := fun j hj => by
                rw [up_row (by omega), k3 j (by omega), up_row (by omega), up_ofk (by omega)]; exact h4 j hj
              cases hg : (rP H B q (dc F k (lg H (H 2 - (q + 1)))) m).isSome with
              | true =>
                rw [hg] at e2
                have er := rP_s hl hk1 (hQ.trans hg) h5
                refine Or.inl ⟨(i32 1, mk (up K 201 k (i32 (F k))) L r), ?_, up K 201 k (i32 (F k)), ?_, q1, q2, q3, fun a ha j z1 z2 => ?_⟩
                · rw [fX11_hasRoomFrom_L46]
                  repeat (first | (apply bd_eq; (focus (simp (disch := first | assumption | omega | rfl) only [i_rem, i_pred, i_addn1, i_lit, i_n1, i_add, i_mul, i_sub, i_le, i_lt, i_eq, i_ne1, n1_ne, n1_lt, n1_le, i_lt1, i_le1, bd_s, nar_bi, nar_0, nar_1, if_pos, if_neg, ↓reduceIte, reduceCtorEq, eq_self, if_true, if_false, not_true_eq_false, not_false_eq_true, mo_k, mo_fI, mo_fL, mo_pI, mo_pL, mo_z0, mo_z1, mo_fR1, mo1_a, mo1_t, mo1_n, mo_fR14, mo14_a, mo14_t, mo14_n, mo_fR15, mo15_a, mo15_t, mo15_n, mo_fR16, mo16_a, mo16_t, mo16_n, mo_fR17, mo17_a, mo17_t, mo17_n, mo_fR18, mo18_a, mo18_t, mo18_n, mo_fR19, mo19_a, mo19_t, mo19_n, mo_fR20, mo20_a, mo20_t, mo20_n, mo_fR21, mo21_a, mo21_t, mo21_n, mo_fR22, mo22_a, mo22_t, mo22_n, mo_fR25, mo25_a, mo25_t, mo25_n, mo_fR26, mo26_a, mo26_t, mo26_n, mo_fR28, mo28_a, mo28_t, mo28_n, mo_fR29, mo29_a, mo29_t, mo29_n, mo_fR30, mo30_a, mo30_t, mo30_n, mo_fR33, mo33_a, mo33_t, mo33_n, mo_fR36, mo36_a, mo36_t, mo36_n, mo_fR37, mo37_a, mo37_t, mo37_n, mo_fR40, mo40_a, mo40_t, mo40_n, m_nb hmJ2, h2 k hk1, m_longOf hO hmJ2, us, eb, up_off, m_longOf hO hm3, e2, bi_z, m_longOf hO hmK, kk, es]; first | done | (with_reducible rfl; done))); try dsimp only) | (apply it_p; (focus (first | assumption | (simp (disch := first | assumption | omega | rfl) only [i_rem, i_pred, i_addn1, i_lit, i_n1, i_add, i_mul, i_sub, i_le, i_lt, i_eq, i_ne1, n1_ne, n1_lt, n1_le, i_lt1, i_le1, bd_s, nar_bi, nar_0, nar_1, if_pos, if_neg, ↓reduceIte, reduceCtorEq, eq_self, if_true, if_false, not_true_eq_false, not_false_eq_true, mo_k, mo_fI, mo_fL, mo_pI, mo_pL, mo_z0, mo_z1, mo_fR1, mo1_a, mo1_t, mo1_n, mo_fR14, mo14_a, mo14_t, mo14_n, mo_fR15, mo15_a, mo15_t, mo15_n, mo_fR16, mo16_a, mo16_t, mo16_n, mo_fR17, mo17_a, mo17_t, mo17_n, mo_fR18, mo18_a, mo18_t, mo18_n, mo_fR19, mo19_a, mo19_t, mo19_n, mo_fR20, mo20_a, mo20_t, mo20_n, mo_fR21, mo21_a, mo21_t, mo21_n, mo_fR22, mo22_a, mo22_t, mo22_n, mo_fR25, mo25_a, mo25_t, mo25_n, mo_fR26, mo26_a, mo26_t, mo26_n, mo_fR28, mo28_a, mo28_t, mo28_n, mo_fR29, mo29_a, mo29_t, mo29_n, mo_fR30, mo30_a, mo30_t, mo30_n, mo_fR33, mo33_a, mo33_t, mo33_n, mo_fR36, mo36_a, mo36_t, mo36_n, mo_fR37, mo37_a, mo37_t, mo37_n, mo_fR40, mo40_a, mo40_t, mo40_n, m_nb hmJ2, h2 k hk1, m_longOf hO hmJ2, us, eb, up_off, m_longOf hO hm3, e2, bi_z, m_longOf hO hmK, kk, es]; first | done | omega)))) | (apply it_n; (focus (first | assumption | (simp (disch := first | assumption | omega | rfl) only [i_rem, i_pred, i_addn1, i_lit, i_n1, i_add, i_mul, i_sub, i_le, i_lt, i_eq, i_ne1, n1_ne, n1_lt, n1_le, i_lt1, i_le1, bd_s, nar_bi, nar_0, nar_1, if_pos, if_neg, ↓reduceIte, reduceCtorEq, eq_self, if_true, if_false, not_true_eq_false, not_false_eq_true, mo_k, mo_fI, mo_fL, mo_pI, mo_pL, mo_z0, mo_z1, mo_fR1, mo1_a, mo1_t, mo1_n, mo_fR14, mo14_a, mo14_t, mo14_n, mo_fR15, mo15_a, mo15_t, mo15_n, mo_fR16, mo16_a, mo16_t, mo16_n, mo_fR17, mo17_a, mo17_t, mo17_n, mo_fR18, mo18_a, mo18_t, mo18_n, mo_fR19, mo19_a, mo19_t, mo19_n, mo_fR20, mo20_a, mo20_t, mo20_n, mo_fR21, mo21_a, mo21_t, mo21_n, mo_fR22, mo22_a, mo22_t, mo22_n, mo_fR25, mo25_a, mo25_t, mo25_n, mo_fR26, mo26_a, mo26_t, mo26_n, mo_fR28, mo28_a, mo28_t, mo28_n, mo_fR29, mo29_a, mo29_t, mo29_n, mo_fR30, mo30_a, mo30_t, mo30_n, mo_fR33, mo33_a, mo33_t, mo33_n, mo_fR36, mo36_a, mo36_t, mo36_n, mo_fR37, mo37_a, mo37_t, mo37_n, mo_fR40, mo40_a, mo40_t, mo40_n, m_nb hmJ2, h2 k hk1, m_longOf hO hmJ2, us, eb, up_off, m_longOf hO hm3, e2, bi_z, m_longOf hO hmK, kk, es]; first | done | omega)))))
                  all_goals rfl
                · rw [er]
                  cases e3 : rP H B q (dc F k (lg H (H 2 - (q + 1)))) m with
                  | none => rw [e3] at hg; cases hg
                  | some a => rfl
                · rw [er] at ha
                  cases e3 : rP H B q (dc F k (lg H (H 2 - (q + 1)))) m with
                  | none => rw [e3] at hg; cases hg
                  | some a' =>
                    rw [e3] at ha
                    cases ha
                    show up K 201 k (i32 (F k)) 199 j = sa a' (H 2 - (q + 1)) k j
                    rw [up_row (by omega), sa]
                    by_cases hj : j = H 2 - (q + 1)
                    · rw [if_pos hj, hj, k3 _ (by omega), up_row (by omega), up_self]
                    · rw [if_neg hj]; exact k4 a' e3 j (by omega) z2
              | false =>
                rw [hg] at e2
                refine Or.inr ⟨hk1, (i32 (k + 1), up K 201 k (i32 (F k))), ?_, rfl, q1, q2, q3, fun b hb => ?_⟩
                · rw [fX11_hasRoomFrom_L46]
                  repeat (first | (apply bd_eq; (focus (simp (disch := first | assumption | omega | rfl) only [i_rem, i_pred, i_addn1, i_lit, i_n1, i_add, i_mul, i_sub, i_le, i_lt, i_eq, i_ne1, n1_ne, n1_lt, n1_le, i_lt1, i_le1, bd_s, nar_bi, nar_0, nar_1, if_pos, if_neg, ↓reduceIte, reduceCtorEq, eq_self, if_true, if_false, not_true_eq_false, not_false_eq_true, mo_k, mo_fI, mo_fL, mo_pI, mo_pL, mo_z0, mo_z1, mo_fR1, mo1_a, mo1_t, mo1_n, mo_fR14, mo14_a, mo14_t, mo14_n, mo_fR15, mo15_a, mo15_t, mo15_n, mo_fR16, mo16_a, mo16_t, mo16_n, mo_fR17, mo17_a, mo17_t, mo17_n, mo_fR18, mo18_a, mo18_t, mo18_n, mo_fR19, mo19_a, mo19_t, mo19_n, mo_fR20, mo20_a, mo20_t, mo20_n, mo_fR21, mo21_a, mo21_t, mo21_n, mo_fR22, mo22_a, mo22_t, mo22_n, mo_fR25, mo25_a, mo25_t, mo25_n, mo_fR26, mo26_a, mo26_t, mo26_n, mo_fR28, mo28_a, mo28_t, mo28_n, mo_fR29, mo29_a, mo29_t, mo29_n, mo_fR30, mo30_a, mo30_t, mo30_n, mo_fR33, mo33_a, mo33_t, mo33_n, mo_fR36, mo36_a, mo36_t, mo36_n, mo_fR37, mo37_a, mo37_t, mo37_n, mo_fR40, mo40_a, mo40_t, mo40_n, m_nb hmJ2, h2 k hk1, m_longOf hO hmJ2, us, eb, up_off, m_longOf hO hm3, e2, bi_z, m_longOf hO hmK, kk, es]; first | done | (with_reducible rfl; done))); try dsimp only) | (apply it_p; (focus (first | assumption | (simp (disch := first | assumption | omega | rfl) only [i_rem, i_pred, i_addn1, i_lit, i_n1, i_add, i_mul, i_sub, i_le, i_lt, i_eq, i_ne1, n1_ne, n1_lt, n1_le, i_lt1, i_le1, bd_s, nar_bi, nar_0, nar_1, if_pos, if_neg, ↓reduceIte, reduceCtorEq, eq_self, if_true, if_false, not_true_eq_false, not_false_eq_true, mo_k, mo_fI, mo_fL, mo_pI, mo_pL, mo_z0, mo_z1, mo_fR1, mo1_a, mo1_t, mo1_n, mo_fR14, mo14_a, mo14_t, mo14_n, mo_fR15, mo15_a, mo15_t, mo15_n, mo_fR16, mo16_a, mo16_t, mo16_n, mo_fR17, mo17_a, mo17_t, mo17_n, mo_fR18, mo18_a, mo18_t, mo18_n, mo_fR19, mo19_a, mo19_t, mo19_n, mo_fR20, mo20_a, mo20_t, mo20_n, mo_fR21, mo21_a, mo21_t, mo21_n, mo_fR22, mo22_a, mo22_t, mo22_n, mo_fR25, mo25_a, mo25_t, mo25_n, mo_fR26, mo26_a, mo26_t, mo26_n, mo_fR28, mo28_a, mo28_t, mo28_n, mo_fR29, mo29_a, mo29_t, mo29_n, mo_fR30, mo30_a, mo30_t, mo30_n, mo_fR33, mo33_a, mo33_t, mo33_n, mo_fR36, mo36_a, mo36_t, mo36_n, mo_fR37, mo37_a, mo37_t, mo37_n, mo_fR40, mo40_a, mo40_t, mo40_n, m_nb hmJ2, h2 k hk1, m_longOf hO hmJ2, us, eb, up_off, m_longOf hO hm3, e2, bi_z, m_longOf hO hmK, kk, es]; first | done | omega)))) | (apply it_n; (focus (first | assumption | (simp (disch := first | assumption | omega | rfl) only [i_rem, i_pred, i_addn1, i_lit, i_n1, i_add, i_mul, i_sub, i_le, i_lt, i_eq, i_ne1, n1_ne, n1_lt, n1_le, i_lt1, i_le1, bd_s, nar_bi, nar_0, nar_1, if_pos, if_neg, ↓reduceIte, reduceCtorEq, eq_self, if_true, if_false, not_true_eq_false, not_false_eq_true, mo_k, mo_fI, mo_fL, mo_pI, mo_pL, mo_z0, mo_z1, mo_fR1, mo1_a, mo1_t, mo1_n, mo_fR14, mo14_a, mo14_t, mo14_n, mo_fR15, mo15_a, mo15_t, mo15_n, mo_fR16, mo16_a, mo16_t, mo16_n, mo_fR17, mo17_a, mo17_t, mo17_n, mo_fR18, mo18_a, mo18_t, mo18_n, mo_fR19, mo19_a, mo19_t, mo19_n, mo_fR20, mo20_a, mo20_t, mo20_n, mo_fR21, mo21_a, mo21_t, mo21_n, mo_fR22, mo22_a, mo22_t, mo22_n, mo_fR25, mo25_a, mo25_t, mo25_n, mo_fR26, mo26_a, mo26_t, mo26_n, mo_fR28, mo28_a, mo28_t, mo28_n, mo_fR29, mo29_a, mo29_t, mo29_n, mo_fR30, mo30_a, mo30_t, mo30_n, mo_fR33, mo33_a, mo33_t, mo33_n, mo_fR36, mo36_a, mo36_t, mo36_n, mo_fR37, mo37_a, mo37_t, mo37_n, mo_fR40, mo40_a, mo40_t, mo40_n, m_nb hmJ2, h2 k hk1, m_longOf hO hmJ2, us, eb, up_off, m_longOf hO hm3, e2, bi_z, m_longOf hO hmK, kk, es]; first | done | omega)))))
                  all_goals simp (disch := first | assumption | omega | rfl) only [i_rem, i_pred, i_addn1, i_lit, i_n1, i_add, i_mul, i_sub, i_le, i_lt, i_eq, i_ne1, n1_ne, n1_lt, n1_le, i_lt1, i_le1, bd_s, nar_bi, nar_0, nar_1, if_pos, if_neg, ↓reduceIte, reduceCtorEq, eq_self, if_true, if_false, not_true_eq_false, not_false_eq_true, es]
                · by_cases hbk : b = k
                  · rw [hbk, hQ, hg]
                  · exact h5 b (by omega)
            · have kc : ¬ i32 (uc H (dc F k (lg H (H 2 - (q + 1))))) ≤ i32 m := by rw [i_le (by omega) (by omega)]; omega
              refine Or.inr ⟨hk1, (i32 (k + 1), J2), ?_, rfl, h2, h3, h4, fun b hb => ?_⟩
              · rw [fX11_hasRoomFrom_L46]
                repeat (first | (apply bd_eq; (focus (simp (disch := first | assumption | omega | rfl) only [i_rem, i_pred, i_addn1, i_lit, i_n1, i_add, i_mul, i_sub, i_le, i_lt, i_eq, i_ne1, n1_ne, n1_lt, n1_le, i_lt1, i_le1, bd_s, nar_bi, nar_0, nar_1, if_pos, if_neg, ↓reduceIte, reduceCtorEq, eq_self, if_true, if_false, not_true_eq_false, not_false_eq_true, mo_k, mo_fI, mo_fL, mo_pI, mo_pL, mo_z0, mo_z1, mo_fR1, mo1_a, mo1_t, mo1_n, mo_fR14, mo14_a, mo14_t, mo14_n, mo_fR15, mo15_a, mo15_t, mo15_n, mo_fR16, mo16_a, mo16_t, mo16_n, mo_fR17, mo17_a, mo17_t, mo17_n, mo_fR18, mo18_a, mo18_t, mo18_n, mo_fR19, mo19_a, mo19_t, mo19_n, mo_fR20, mo20_a, mo20_t, mo20_n, mo_fR21, mo21_a, mo21_t, mo21_n, mo_fR22, mo22_a, mo22_t, mo22_n, mo_fR25, mo25_a, mo25_t, mo25_n, mo_fR26, mo26_a, mo26_t, mo26_n, mo_fR28, mo28_a, mo28_t, mo28_n, mo_fR29, mo29_a, mo29_t, mo29_n, mo_fR30, mo30_a, mo30_t, mo30_n, mo_fR33, mo33_a, mo33_t, mo33_n, mo_fR36, mo36_a, mo36_t, mo36_n, mo_fR37, mo37_a, mo37_t, mo37_n, mo_fR40, mo40_a, mo40_t, mo40_n, m_nb hmJ2, h2 k hk1, m_longOf hO hmJ2, us, eb]; first | done | (with_reducible rfl; done))); try dsimp only) | (apply it_p; (focus (first | assumption | (simp (disch := first | assumption | omega | rfl) only [i_rem, i_pred, i_addn1, i_lit, i_n1, i_add, i_mul, i_sub, i_le, i_lt, i_eq, i_ne1, n1_ne, n1_lt, n1_le, i_lt1, i_le1, bd_s, nar_bi, nar_0, nar_1, if_pos, if_neg, ↓reduceIte, reduceCtorEq, eq_self, if_true, if_false, not_true_eq_false, not_false_eq_true, mo_k, mo_fI, mo_fL, mo_pI, mo_pL, mo_z0, mo_z1, mo_fR1, mo1_a, mo1_t, mo1_n, mo_fR14, mo14_a, mo14_t, mo14_n, mo_fR15, mo15_a, mo15_t, mo15_n, mo_fR16, mo16_a, mo16_t, mo16_n, mo_fR17, mo17_a, mo17_t, mo17_n, mo_fR18, mo18_a, mo18_t, mo18_n, mo_fR19, mo19_a, mo19_t, mo19_n, mo_fR20, mo20_a, mo20_t, mo20_n, mo_fR21, mo21_a, mo21_t, mo21_n, mo_fR22, mo22_a, mo22_t, mo22_n, mo_fR25, mo25_a, mo25_t, mo25_n, mo_fR26, mo26_a, mo26_t, mo26_n, mo_fR28, mo28_a, mo28_t, mo28_n, mo_fR29, mo29_a, mo29_t, mo29_n, mo_fR30, mo30_a, mo30_t, mo30_n, mo_fR33, mo33_a, mo33_t, mo33_n, mo_fR36, mo36_a, mo36_t, mo36_n, mo_fR37, mo37_a, mo37_t, mo37_n, mo_fR40, mo40_a, mo40_t, mo40_n, m_nb hmJ2, h2 k hk1, m_longOf hO hmJ2, us, eb]; first | done | omega)))) | (apply it_n; (focus (first | assumption | (simp (disch := first | assumption | omega | rfl) only [i_rem, i_pred, i_addn1, i_lit, i_n1, i_add, i_mul, i_sub, i_le, i_lt, i_eq, i_ne1, n1_ne, n1_lt, n1_le, i_lt1, i_le1, bd_s, nar_bi, nar_0, nar_1, if_pos, if_neg, ↓reduceIte, reduceCtorEq, eq_self, if_true, if_false, not_true_eq_false, not_false_eq_true, mo_k, mo_fI, mo_fL, mo_pI, mo_pL, mo_z0, mo_z1, mo_fR1, mo1_a, mo1_t, mo1_n, mo_fR14, mo14_a, mo14_t, mo14_n, mo_fR15, mo15_a, mo15_t, mo15_n, mo_fR16, mo16_a, mo16_t, mo16_n, mo_fR17, mo17_a, mo17_t, mo17_n, mo_fR18, mo18_a, mo18_t, mo18_n, mo_fR19, mo19_a, mo19_t, mo19_n, mo_fR20, mo20_a, mo20_t, mo20_n, mo_fR21, mo21_a, mo21_t, mo21_n, mo_fR22, mo22_a, mo22_t, mo22_n, mo_fR25, mo25_a, mo25_t, mo25_n, mo_fR26, mo26_a, mo26_t, mo26_n, mo_fR28, mo28_a, mo28_t, mo28_n, mo_fR29, mo29_a, mo29_t, mo29_n, mo_fR30, mo30_a, mo30_t, mo30_n, mo_fR33, mo33_a, mo33_t, mo33_n, mo_fR36, mo36_a, mo36_t, mo36_n, mo_fR37, mo37_a, mo37_t, mo37_n, mo_fR40, mo40_a, mo40_t, mo40_n, m_nb hmJ2, h2 k hk1, m_longOf hO hmJ2, us, eb]; first | done | omega)))))
                all_goals simp (disch := first | assumption | omega | rfl) only [i_rem, i_pred, i_addn1, i_lit, i_n1, i_add, i_mul, i_sub, i_le, i_lt, i_eq, i_ne1, n1_ne, n1_lt, n1_le, i_lt1, i_le1, bd_s, nar_bi, nar_0, nar_1, if_pos, if_neg, ↓reduceIte, reduceCtorEq, eq_self, if_true, if_false, not_true_eq_false, not_false_eq_true, us]
              · by_cases hbk : b = k
                · rw [hbk, hQ]
                  cases hg : (rP H B q (dc F k (lg H (H 2 - (q + 1)))) m).isSome with
                  | false => rfl
                  | true => exact absurd (rP_uc q _ (fOk_dc hF) hg) hc
                · exact h5 b (by omega)
          · refine Or.inr ⟨hk1, (i32 (k + 1), J2), ?_, rfl, h2, h3, h4, fun b hb => ?_⟩
            · have kf : i32 (F k) < i32 (lg H (H 2 - (q + 1))) := by rw [i_lt (by omega) (by omega)]; omega
              rw [fX11_hasRoomFrom_L46]
              repeat (first | (apply bd_eq; (focus (simp (disch := first | assumption | omega | rfl) only [i_rem, i_pred, i_addn1, i_lit, i_n1, i_add, i_mul, i_sub, i_le, i_lt, i_eq, i_ne1, n1_ne, n1_lt, n1_le, i_lt1, i_le1, bd_s, nar_bi, nar_0, nar_1, if_pos, if_neg, ↓reduceIte, reduceCtorEq, eq_self, if_true, if_false, not_true_eq_false, not_false_eq_true, mo_k, mo_fI, mo_fL, mo_pI, mo_pL, mo_z0, mo_z1, mo_fR1, mo1_a, mo1_t, mo1_n, mo_fR14, mo14_a, mo14_t, mo14_n, mo_fR15, mo15_a, mo15_t, mo15_n, mo_fR16, mo16_a, mo16_t, mo16_n, mo_fR17, mo17_a, mo17_t, mo17_n, mo_fR18, mo18_a, mo18_t, mo18_n, mo_fR19, mo19_a, mo19_t, mo19_n, mo_fR20, mo20_a, mo20_t, mo20_n, mo_fR21, mo21_a, mo21_t, mo21_n, mo_fR22, mo22_a, mo22_t, mo22_n, mo_fR25, mo25_a, mo25_t, mo25_n, mo_fR26, mo26_a, mo26_t, mo26_n, mo_fR28, mo28_a, mo28_t, mo28_n, mo_fR29, mo29_a, mo29_t, mo29_n, mo_fR30, mo30_a, mo30_t, mo30_n, mo_fR33, mo33_a, mo33_t, mo33_n, mo_fR36, mo36_a, mo36_t, mo36_n, mo_fR37, mo37_a, mo37_t, mo37_n, mo_fR40, mo40_a, mo40_t, mo40_n, m_nb hmJ2, h2 k hk1, m_longOf hO hmJ2]; first | done | (with_reducible rfl; done))); try dsimp only) | (apply it_p; (focus (first | assumption | (simp (disch := first | assumption | omega | rfl) only [i_rem, i_pred, i_addn1, i_lit, i_n1, i_add, i_mul, i_sub, i_le, i_lt, i_eq, i_ne1, n1_ne, n1_lt, n1_le, i_lt1, i_le1, bd_s, nar_bi, nar_0, nar_1, if_pos, if_neg, ↓reduceIte, reduceCtorEq, eq_self, if_true, if_false, not_true_eq_false, not_false_eq_true, mo_k, mo_fI, mo_fL, mo_pI, mo_pL, mo_z0, mo_z1, mo_fR1, mo1_a, mo1_t, mo1_n, mo_fR14, mo14_a, mo14_t, mo14_n, mo_fR15, mo15_a, mo15_t, mo15_n, mo_fR16, mo16_a, mo16_t, mo16_n, mo_fR17, mo17_a, mo17_t, mo17_n, mo_fR18, mo18_a, mo18_t, mo18_n, mo_fR19, mo19_a, mo19_t, mo19_n, mo_fR20, mo20_a, mo20_t, mo20_n, mo_fR21, mo21_a, mo21_t, mo21_n, mo_fR22, mo22_a, mo22_t, mo22_n, mo_fR25, mo25_a, mo25_t, mo25_n, mo_fR26, mo26_a, mo26_t, mo26_n, mo_fR28, mo28_a, mo28_t, mo28_n, mo_fR29, mo29_a, mo29_t, mo29_n, mo_fR30, mo30_a, mo30_t, mo30_n, mo_fR33, mo33_a, mo33_t, mo33_n, mo_fR36, mo36_a, mo36_t, mo36_n, mo_fR37, mo37_a, mo37_t, mo37_n, mo_fR40, mo40_a, mo40_t, mo40_n, m_nb hmJ2, h2 k hk1, m_longOf hO hmJ2]; first | done | omega)))) | (apply it_n; (focus (first | assumption | (simp (disch := first | assumption | omega | rfl) only [i_rem, i_pred, i_addn1, i_lit, i_n1, i_add, i_mul, i_sub, i_le, i_lt, i_eq, i_ne1, n1_ne, n1_lt, n1_le, i_lt1, i_le1, bd_s, nar_bi, nar_0, nar_1, if_pos, if_neg, ↓reduceIte, reduceCtorEq, eq_self, if_true, if_false, not_true_eq_false, not_false_eq_true, mo_k, mo_fI, mo_fL, mo_pI, mo_pL, mo_z0, mo_z1, mo_fR1, mo1_a, mo1_t, mo1_n, mo_fR14, mo14_a, mo14_t, mo14_n, mo_fR15, mo15_a, mo15_t, mo15_n, mo_fR16, mo16_a, mo16_t, mo16_n, mo_fR17, mo17_a, mo17_t, mo17_n, mo_fR18, mo18_a, mo18_t, mo18_n, mo_fR19, mo19_a, mo19_t, mo19_n, mo_fR20, mo20_a, mo20_t, mo20_n, mo_fR21, mo21_a, mo21_t, mo21_n, mo_fR22, mo22_a, mo22_t, mo22_n, mo_fR25, mo25_a, mo25_t, mo25_n, mo_fR26, mo26_a, mo26_t, mo26_n, mo_fR28, mo28_a, mo28_t, mo28_n, mo_fR29, mo29_a, mo29_t, mo29_n, mo_fR30, mo30_a, mo30_t, mo30_n, mo_fR33, mo33_a, mo33_t, mo33_n, mo_fR36, mo36_a, mo36_t, mo36_n, mo_fR37, mo37_a, mo37_t, mo37_n, mo_fR40, mo40_a, mo40_t, mo40_n, m_nb hmJ2, h2 k hk1, m_longOf hO hmJ2]; first | done | omega)))))
              all_goals simp (disch := first | assumption | omega | rfl) only [i_rem, i_pred, i_addn1, i_lit, i_n1, i_add, i_mul, i_sub, i_le, i_lt, i_eq, i_ne1, n1_ne, n1_lt, n1_le, i_lt1, i_le1, bd_s, nar_bi, nar_0, nar_1, if_pos, if_neg, ↓reduceIte, reduceCtorEq, eq_self, if_true, if_false, not_true_eq_false, not_false_eq_true]
            · by_cases hbk : b = k
              · rw [hbk]; unfold Qb; rw [decide_eq_false hf, Bool.false_and]
              · exact h5 b (by omega)) (n := N) (by omega) (s := (i32 0, up J 199 (H 2 - (q + 1)) n1)) ⟨rfl, p1, p2, fun j hj => up_ofk (by omega), fun b hb => absurd hb (Nat.not_lt_zero b)⟩
      dsimp only at e1
      refine ⟨K, ?_, k1, k2, k3, k4⟩
      rw [fX11_hasRoomFrom]
      unfold fX11_hasRoomFrom_b
      repeat (first | (apply bd_eq; (focus (simp (disch := first | assumption | omega | rfl) only [i_rem, i_pred, i_addn1, i_lit, i_n1, i_add, i_mul, i_sub, i_le, i_lt, i_eq, i_ne1, n1_ne, n1_lt, n1_le, i_lt1, i_le1, bd_s, nar_bi, nar_0, nar_1, if_pos, if_neg, ↓reduceIte, reduceCtorEq, eq_self, if_true, if_false, not_true_eq_false, not_false_eq_true, mo_k, mo_fI, mo_fL, mo_pI, mo_pL, mo_z0, mo_z1, mo_fR1, mo1_a, mo1_t, mo1_n, mo_fR14, mo14_a, mo14_t, mo14_n, mo_fR15, mo15_a, mo15_t, mo15_n, mo_fR16, mo16_a, mo16_t, mo16_n, mo_fR17, mo17_a, mo17_t, mo17_n, mo_fR18, mo18_a, mo18_t, mo18_n, mo_fR19, mo19_a, mo19_t, mo19_n, mo_fR20, mo20_a, mo20_t, mo20_n, mo_fR21, mo21_a, mo21_t, mo21_n, mo_fR22, mo22_a, mo22_t, mo22_n, mo_fR25, mo25_a, mo25_t, mo25_n, mo_fR26, mo26_a, mo26_t, mo26_n, mo_fR28, mo28_a, mo28_t, mo28_n, mo_fR29, mo29_a, mo29_t, mo29_n, mo_fR30, mo30_a, mo30_t, mo30_n, mo_fR33, mo33_a, mo33_t, mo33_n, mo_fR36, mo36_a, mo36_t, mo36_n, mo_fR37, mo37_a, mo37_t, mo37_n, mo_fR40, mo40_a, mo40_t, mo40_n, m_nl hmJ, hne, m_lp hmJ1, e0, bi_z, e1]; first | done | (with_reducible rfl; done))); try dsimp only) | (apply it_p; (focus (first | assumption | (simp (disch := first | assumption | omega | rfl) only [i_rem, i_pred, i_addn1, i_lit, i_n1, i_add, i_mul, i_sub, i_le, i_lt, i_eq, i_ne1, n1_ne, n1_lt, n1_le, i_lt1, i_le1, bd_s, nar_bi, nar_0, nar_1, if_pos, if_neg, ↓reduceIte, reduceCtorEq, eq_self, if_true, if_false, not_true_eq_false, not_false_eq_true, mo_k, mo_fI, mo_fL, mo_pI, mo_pL, mo_z0, mo_z1, mo_fR1, mo1_a, mo1_t, mo1_n, mo_fR14, mo14_a, mo14_t, mo14_n, mo_fR15, mo15_a, mo15_t, mo15_n, mo_fR16, mo16_a, mo16_t, mo16_n, mo_fR17, mo17_a, mo17_t, mo17_n, mo_fR18, mo18_a, mo18_t, mo18_n, mo_fR19, mo19_a, mo19_t, mo19_n, mo_fR20, mo20_a, mo20_t, mo20_n, mo_fR21, mo21_a, mo21_t, mo21_n, mo_fR22, mo22_a, mo22_t, mo22_n, mo_fR25, mo25_a, mo25_t, mo25_n, mo_fR26, mo26_a, mo26_t, mo26_n, mo_fR28, mo28_a, mo28_t, mo28_n, mo_fR29, mo29_a, mo29_t, mo29_n, mo_fR30, mo30_a, mo30_t, mo30_n, mo_fR33, mo33_a, mo33_t, mo33_n, mo_fR36, mo36_a, mo36_t, mo36_n, mo_fR37, mo37_a, mo37_t, mo37_n, mo_fR40, mo40_a, mo40_t, mo40_n, m_nl hmJ, hne, m_lp hmJ1, e0, bi_z, e1]; first | done | omega)))) | (apply it_n; (focus (first | assumption | (simp (disch := first | assumption | omega | rfl) only [i_rem, i_pred, i_addn1, i_lit, i_n1, i_add, i_mul, i_sub, i_le, i_lt, i_eq, i_ne1, n1_ne, n1_lt, n1_le, i_lt1, i_le1, bd_s, nar_bi, nar_0, nar_1, if_pos, if_neg, ↓reduceIte, reduceCtorEq, eq_self, if_true, if_false, not_true_eq_false, not_false_eq_true, mo_k, mo_fI, mo_fL, mo_pI, mo_pL, mo_z0, mo_z1, mo_fR1, mo1_a, mo1_t, mo1_n, mo_fR14, mo14_a, mo14_t, mo14_n, mo_fR15, mo15_a, mo15_t, mo15_n, mo_fR16, mo16_a, mo16_t, mo16_n, mo_fR17, mo17_a, mo17_t, mo17_n, mo_fR18, mo18_a, mo18_t, mo18_n, mo_fR19, mo19_a, mo19_t, mo19_n, mo_fR20, mo20_a, mo20_t, mo20_n, mo_fR21, mo21_a, mo21_t, mo21_n, mo_fR22, mo22_a, mo22_t, mo22_n, mo_fR25, mo25_a, mo25_t, mo25_n, mo_fR26, mo26_a, mo26_t, mo26_n, mo_fR28, mo28_a, mo28_t, mo28_n, mo_fR29, mo29_a, mo29_t, mo29_n, mo_fR30, mo30_a, mo30_t, mo30_n, mo_fR33, mo33_a, mo33_t, mo33_n, mo_fR36, mo36_a, mo36_t, mo36_n, mo_fR37, mo37_a, mo37_t, mo37_n, mo_fR40, mo40_a, mo40_t, mo40_n, m_nl hmJ, hne, m_lp hmJ1, e0, bi_z, e1]; first | done | omega)))))
      all_goals rfl
/-- all bands are bare -/
def FW0 (H : Nat → Nat) : Nat → Nat := fun b => H (11 + b)
theorem uc_FW0 : uc H (FW0 H) = 0 := by
  have e : ∀ m, cnt (usP H (FW0 H)) m = 0 := by
    intro m
    induction m with
    | zero => rfl
    | succ m ih =>
      have : usP H (FW0 H) m = false := by rw [usP, FW0]; simp
      rw [cnt_s, this, ih]; rfl
  exact e _
theorem fOk_FW0 : fOk H (FW0 H) := fun _ _ => Nat.le_refl _
def rsO (t : Option Nat) : Int32 := match t with
  | none => n1
  | some m => i32 m
theorem c_fewestBands (hN : 1200 < N) (hO : hOk H) (hs : RS 4 H I) (hb : BR 26 B I) {a : Nat → Int32} (h0 : ∀ j, j < 6 → I 131 j = a j) : ∃ K, fX6_fewestBands N 128 26 (mk I L r) = some (rsO (rs H B (H 2) (FW0 H) 7), mk K L r) ∧ (∀ j, j < 6 → K 131 j = rsA H B (H 2) (FW0 H) (fun _ => n1) a (rs H B (H 2) (FW0 H) 7) j) ∧ ∀ q, q ≠ 128 → q ≠ 129 → q ≠ 130 → q ≠ 131 → K q = I q := by
  have o0 := hO.1; have o1 := hO.2.1; have o2 := hO.2.2.1; have o3 := hO.2.2.2.1; have o4 := hO.2.2.2.2.1; have o5 := hO.2.2.2.2.2.1
  have ha : isBe 26 = true := rfl
  have c1 := mk_cI (I := I) (L := L) (r := r) (a0 := 7) (a1 := 129) (sp := 0) (dp := 0) (n := 6) s43_K rm1_K s43_N rm1_N (by omega) (by omega) (by omega) (by omega)
  have c2 := j_fill (N := N) (I := cpy I 7 0 129 0 6) (L := L) (r := r) (q := 130) (n := 6) (v := n1) (by omega) (by omega) rm2_n (fun J k hk => rm2_t hk)
  have hJ : RMm H (FW0 H) (fun _ => n1) a 7 I (up (fi (cpy I 7 0 129 0 6) 130 0 6 n1) 128 4 (i32 7)) := by
    refine ⟨fun b hb => ?_, fun j hj => ?_, fun j hj => ?_, up_self, fun z z1 z2 z3 z4 => ?_⟩
    · rw [up_row (by omega), fi_row (by omega), cpy_in (by omega), show 0 + (b - 0) = b by omega]
      exact s4_wd hs hb
    · rw [up_row (by omega), fi_in (by omega)]
    · rw [up_row (by omega), fi_row (by omega), cpy_row (by omega)]; exact h0 j hj
    · rw [up_row z1, fi_row z3, cpy_row z2]
  obtain ⟨K, e1, k1, k2, k3, k4, k5⟩ := c_settle (N := N) (B := B) (L := L) (r := r) hN hO hs (H 2) (Nat.le_refl _) 8 (by omega) (FW0 H) 7 a (fun _ => n1) _ fOk_FW0 (by omega) (fun _ _ => rfl) hJ
  rw [Nat.sub_self, uc_FW0] at e1
  have lp : up (fi (cpy I 7 0 129 0 6) 130 0 6 n1) 128 4 (i32 7) 26 8 = B 3 := by
    rw [up_row (by omega), fi_row (by omega), cpy_row (by omega)]; exact be_lp hb
  refine ⟨K, ?_, k3, k5⟩
  cases ht : rs H B (H 2) (FW0 H) 7 with
  | none =>
    rw [ht] at k4
    have k4' : K 128 4 = i32 7 := k4
    unfold fX6_fewestBands
    simp (disch := first | assumption | omega | rfl) only [i_rem, i_pred, i_addn1, i_lit, i_n1, i_add, i_mul, i_sub, i_le, i_lt, i_eq, i_ne1, n1_ne, n1_lt, n1_le, i_lt1, i_le1, bd_s, nar_bi, nar_0, nar_1, if_pos, if_neg, ↓reduceIte, reduceCtorEq, eq_self, if_true, if_false, not_true_eq_false, not_false_eq_true, rm_k, rm_fI, rm_fL, rm_pI, rm_pL, rm_z0, rm_z1, rm_fR0, rm_fR1, rm1_a, rm1_t, rm1_n, rm_fR2, rm2_a, rm2_t, rm2_n, rm_fR3, rm3_a, rm3_t, rm3_n, s4_k, s4_fI, s4_fL, s4_pI, s4_pL, s4_z0, s4_z1, s4_fR1, s41_a, s41_t, s41_n, s4_fR2, s42_a, s42_t, s42_n, s4_fR3, s43_a, s43_t, s43_n, s4_fR5, s45_a, s45_t, s45_n, s4_fR7, s47_a, s47_t, s47_n, s4_fR8, s48_a, s48_t, s48_n, s4_fR10, s410_a, s410_t, s410_n, s4_fR11, s411_a, s411_t, s411_n, s4_fR12, s412_a, s412_t, s412_n, s4_fR13, s413_a, s413_t, s413_n, be_k, be_fI, be_fL, be_pI, be_pL, be_z0, be_z1, be_fR0, be_fR1, be1_a, be1_t, be1_n, be_fR2, be2_a, be2_t, be2_n, be_fR3, be3_a, be3_t, be3_n, be_fR4, be4_a, be4_t, be4_n, be_fR5, be5_a, be5_t, be5_n, be_fR6, be6_a, be6_t, be6_n, be_fR7, be7_a, be7_t, be7_n, c1, c2, lp, e1, k4', rsO]
  | some m =>
    have hm7 := (fd_some.mp ht).1
    rw [ht] at k4
    have k4' : K 128 4 = i32 m := k4
    unfold fX6_fewestBands
    simp (disch := first | assumption | omega | rfl) only [i_rem, i_pred, i_addn1, i_lit, i_n1, i_add, i_mul, i_sub, i_le, i_lt, i_eq, i_ne1, n1_ne, n1_lt, n1_le, i_lt1, i_le1, bd_s, nar_bi, nar_0, nar_1, if_pos, if_neg, ↓reduceIte, reduceCtorEq, eq_self, if_true, if_false, not_true_eq_false, not_false_eq_true, rm_k, rm_fI, rm_fL, rm_pI, rm_pL, rm_z0, rm_z1, rm_fR0, rm_fR1, rm1_a, rm1_t, rm1_n, rm_fR2, rm2_a, rm2_t, rm2_n, rm_fR3, rm3_a, rm3_t, rm3_n, s4_k, s4_fI, s4_fL, s4_pI, s4_pL, s4_z0, s4_z1, s4_fR1, s41_a, s41_t, s41_n, s4_fR2, s42_a, s42_t, s42_n, s4_fR3, s43_a, s43_t, s43_n, s4_fR5, s45_a, s45_t, s45_n, s4_fR7, s47_a, s47_t, s47_n, s4_fR8, s48_a, s48_t, s48_n, s4_fR10, s410_a, s410_t, s410_n, s4_fR11, s411_a, s411_t, s411_n, s4_fR12, s412_a, s412_t, s412_n, s4_fR13, s413_a, s413_t, s413_n, be_k, be_fI, be_fL, be_pI, be_pL, be_z0, be_z1, be_fR0, be_fR1, be1_a, be1_t, be1_n, be_fR2, be2_a, be2_t, be2_n, be_fR3, be3_a, be3_t, be3_n, be_fR4, be4_a, be4_t, be4_n, be_fR5, be5_a, be5_t, be5_n, be_fR6, be6_a, be6_t, be6_n, be_fR7, be7_a, be7_t, be7_n, c1, c2, lp, e1, k4', rsO]
theorem m_room7 (hN : 1200 < N) : ∃ K, fX11_room_L7 N 186 N (i32 0) (mk I L r) = some (mk K L r) ∧ (∀ b, b < 6 → K 201 b = I 188 (11 + b)) ∧ ∀ q, q ≠ 201 → K q = I q := by
  obtain ⟨K, e, g1, g2⟩ := lp_st (F := fun n' v J => fX11_room_L7 N 186 n' v (mk J L r)) (m := 6) (fun k J => (∀ b, b < k → J 201 b = I 188 (11 + b)) ∧ ∀ q, q ≠ 201 → J q = I q) (fun J => mk J L r) (fun n' k J hk hJ => by
    obtain ⟨h1, h2⟩ := hJ
    have e1 : J 188 (11 + k) = I 188 (11 + k) := by rw [h2 188 (by omega)]
    refine ⟨up J 201 k (I 188 (11 + k)), ?_, fun b hb => ?_, fun q hq => by rw [up_row hq]; exact h2 q hq⟩
    · simp (disch := first | assumption | omega | rfl) only [i_rem, i_pred, i_addn1, i_lit, i_n1, i_add, i_mul, i_sub, i_le, i_lt, i_eq, i_ne1, n1_ne, n1_lt, n1_le, i_lt1, i_le1, bd_s, nar_bi, nar_0, nar_1, if_pos, if_neg, ↓reduceIte, reduceCtorEq, eq_self, if_true, if_false, not_true_eq_false, not_false_eq_true, mo_k, mo_fI, mo_fL, mo_pI, mo_pL, mo_z0, mo_z1, mo_fR1, mo1_a, mo1_t, mo1_n, mo_fR14, mo14_a, mo14_t, mo14_n, mo_fR15, mo15_a, mo15_t, mo15_n, mo_fR16, mo16_a, mo16_t, mo16_n, mo_fR17, mo17_a, mo17_t, mo17_n, mo_fR18, mo18_a, mo18_t, mo18_n, mo_fR19, mo19_a, mo19_t, mo19_n, mo_fR20, mo20_a, mo20_t, mo20_n, mo_fR21, mo21_a, mo21_t, mo21_n, mo_fR22, mo22_a, mo22_t, mo22_n, mo_fR25, mo25_a, mo25_t, mo25_n, mo_fR26, mo26_a, mo26_t, mo26_n, mo_fR28, mo28_a, mo28_t, mo28_n, mo_fR29, mo29_a, mo29_t, mo29_n, mo_fR30, mo30_a, mo30_t, mo30_n, mo_fR33, mo33_a, mo33_t, mo33_n, mo_fR36, mo36_a, mo36_t, mo36_n, mo_fR37, mo37_a, mo37_t, mo37_n, mo_fR40, mo40_a, mo40_t, mo40_n, fX11_room_L7, e1]
    · rw [up_at]
      by_cases hbk : b = k
      · rw [if_pos hbk, hbk]
      · rw [if_neg hbk]; exact h1 b (by omega)) (fun n' J hJ => by
    simp (disch := first | assumption | omega | rfl) only [i_rem, i_pred, i_addn1, i_lit, i_n1, i_add, i_mul, i_sub, i_le, i_lt, i_eq, i_ne1, n1_ne, n1_lt, n1_le, i_lt1, i_le1, bd_s, nar_bi, nar_0, nar_1, if_pos, if_neg, ↓reduceIte, reduceCtorEq, eq_self, if_true, if_false, not_true_eq_false, not_false_eq_true, mo_k, mo_fI, mo_fL, mo_pI, mo_pL, mo_z0, mo_z1, mo_fR1, mo1_a, mo1_t, mo1_n, mo_fR14, mo14_a, mo14_t, mo14_n, mo_fR15, mo15_a, mo15_t, mo15_n, mo_fR16, mo16_a, mo16_t, mo16_n, mo_fR17, mo17_a, mo17_t, mo17_n, mo_fR18, mo18_a, mo18_t, mo18_n, mo_fR19, mo19_a, mo19_t, mo19_n, mo_fR20, mo20_a, mo20_t, mo20_n, mo_fR21, mo21_a, mo21_t, mo21_n, mo_fR22, mo22_a, mo22_t, mo22_n, mo_fR25, mo25_a, mo25_t, mo25_n, mo_fR26, mo26_a, mo26_t, mo26_n, mo_fR28, mo28_a, mo28_t, mo28_n, mo_fR29, mo29_a, mo29_t, mo29_n, mo_fR30, mo30_a, mo30_t, mo30_n, mo_fR33, mo33_a, mo33_t, mo33_n, mo_fR36, mo36_a, mo36_t, mo36_n, mo_fR37, mo37_a, mo37_t, mo37_n, mo_fR40, mo40_a, mo40_t, mo40_n, fX11_room_L7]) (n := N) (by omega) (s := I) ⟨fun b hb => absurd hb (Nat.not_lt_zero b), fun _ _ => rfl⟩
  exact ⟨K, e, g1, g2⟩
theorem m_room36 (hN : 1200 < N) (hO : hOk H) (hm : MR H B I) (h0 : ∀ b, b < H 0 → I 201 b = i32 (FW0 H b)) : ∃ K, (∀ z, z ≠ 199 → z ≠ 201 → K z = I z) ∧ ((fX11_room_L36 N 186 N (i32 0) (mk I L r) = some (.inr (n1, mk K L r)) ∧ rs H B (H 2) (FW0 H) 7 = none) ∨ ∃ m a, fX11_room_L36 N 186 N (i32 0) (mk I L r) = some (.inl (i32 m, mk K L r)) ∧ rs H B (H 2) (FW0 H) 7 = some m ∧ rP H B (H 2) (FW0 H) m = some a ∧ ∀ j, j < H 2 → K 199 j = a j) := by
  have o0 := hO.1; have o1 := hO.2.1; have o2 := hO.2.2.1; have o3 := hO.2.2.2.1; have o4 := hO.2.2.2.2.1; have o5 := hO.2.2.2.2.2.1
  have z0 : bset (usP H (FW0 H)) (H 0) = i32 0 := (bset_0 (by omega)).mpr (fun k hk => by rw [usP, FW0]; simp)
  obtain ⟨ρ, e1, K, k1, k2⟩ := lp_in (F := fun n (s : Int32 × (Nat → Nat → Int32)) => fX11_room_L36 N 186 n s.1 (mk s.2 L r)) (m := H 0 + 1) (fun k s => s.1 = i32 k ∧ (∀ b, b < H 0 → s.2 201 b = i32 (FW0 H b)) ∧ (∀ z, z ≠ 199 → z ≠ 201 → s.2 z = I z) ∧ ∀ m, m < k → rP H B (H 2) (FW0 H) m = none) (fun ρ => ∃ K, (∀ z, z ≠ 199 → z ≠ 201 → K z = I z) ∧ ((ρ = .inr (n1, mk K L r) ∧ rs H B (H 2) (FW0 H) 7 = none) ∨ ∃ m a, ρ = .inl (i32 m, mk K L r) ∧ rs H B (H 2) (FW0 H) 7 = some m ∧ rP H B (H 2) (FW0 H) m = some a ∧ ∀ j, j < H 2 → K 199 j = a j)) (fun n k s hk hs => by
    obtain ⟨u, J⟩ := s
    obtain ⟨h1, h2, h3, h4⟩ := hs
    dsimp only at h1 h2 h3 h4 ⊢
    subst h1
    have hmJ : MR H B J := by unfold MR; rw [h3 188 (by omega) (by omega)]; exact hm
    by_cases hk0 : k = H 0 + 1
    · refine Or.inl ⟨.inr (n1, mk J L r), ?_, J, h3, Or.inl ⟨rfl, ?_⟩⟩
      · simp (disch := first | assumption | omega | rfl) only [i_rem, i_pred, i_addn1, i_lit, i_n1, i_add, i_mul, i_sub, i_le, i_lt, i_eq, i_ne1, n1_ne, n1_lt, n1_le, i_lt1, i_le1, bd_s, nar_bi, nar_0, nar_1, if_pos, if_neg, ↓reduceIte, reduceCtorEq, eq_self, if_true, if_false, not_true_eq_false, not_false_eq_true, mo_k, mo_fI, mo_fL, mo_pI, mo_pL, mo_z0, mo_z1, mo_fR1, mo1_a, mo1_t, mo1_n, mo_fR14, mo14_a, mo14_t, mo14_n, mo_fR15, mo15_a, mo15_t, mo15_n, mo_fR16, mo16_a, mo16_t, mo16_n, mo_fR17, mo17_a, mo17_t, mo17_n, mo_fR18, mo18_a, mo18_t, mo18_n, mo_fR19, mo19_a, mo19_t, mo19_n, mo_fR20, mo20_a, mo20_t, mo20_n, mo_fR21, mo21_a, mo21_t, mo21_n, mo_fR22, mo22_a, mo22_t, mo22_n, mo_fR25, mo25_a, mo25_t, mo25_n, mo_fR26, mo26_a, mo26_t, mo26_n, mo_fR28, mo28_a, mo28_t, mo28_n, mo_fR29, mo29_a, mo29_t, mo29_n, mo_fR30, mo30_a, mo30_t, mo30_n, mo_fR33, mo33_a, mo33_t, mo33_n, mo_fR36, mo36_a, mo36_t, mo36_n, mo_fR37, mo37_a, mo37_t, mo37_n, mo_fR40, mo40_a, mo40_t, mo40_n, fX11_room_L36, m_nb hmJ]
      · refine fd_none.mpr (fun m _ => ?_)
        cases e : (rP H B (H 2) (FW0 H) m).isSome with
        | false => rfl
        | true =>
          have := rP_top (H 2) (FW0 H) e
          rw [h4 (H 0) (by omega)] at this
          cases this
    · obtain ⟨K, e1, k1, k2, k3, k4⟩ := m_hasRoom (N := N) (L := L) (r := r) hN hO hm (m := k) (by omega) (H 2) (Nat.le_refl _) 8 (by omega) (FW0 H) J fOk_FW0 (by rw [uc_FW0]; omega) h2 h3
      rw [Nat.sub_self, z0] at e1
      cases e2 : rP H B (H 2) (FW0 H) k with
      | none =>
        rw [e2] at e1
        refine Or.inr ⟨by omega, (i32 (k + 1), K), ?_, rfl, k1, k2, fun m hm => ?_⟩
        · simp (disch := first | assumption | omega | rfl) only [i_rem, i_pred, i_addn1, i_lit, i_n1, i_add, i_mul, i_sub, i_le, i_lt, i_eq, i_ne1, n1_ne, n1_lt, n1_le, i_lt1, i_le1, bd_s, nar_bi, nar_0, nar_1, if_pos, if_neg, ↓reduceIte, reduceCtorEq, eq_self, if_true, if_false, not_true_eq_false, not_false_eq_true, mo_k, mo_fI, mo_fL, mo_pI, mo_pL, mo_z0, mo_z1, mo_fR1, mo1_a, mo1_t, mo1_n, mo_fR14, mo14_a, mo14_t, mo14_n, mo_fR15, mo15_a, mo15_t, mo15_n, mo_fR16, mo16_a, mo16_t, mo16_n, mo_fR17, mo17_a, mo17_t, mo17_n, mo_fR18, mo18_a, mo18_t, mo18_n, mo_fR19, mo19_a, mo19_t, mo19_n, mo_fR20, mo20_a, mo20_t, mo20_n, mo_fR21, mo21_a, mo21_t, mo21_n, mo_fR22, mo22_a, mo22_t, mo22_n, mo_fR25, mo25_a, mo25_t, mo25_n, mo_fR26, mo26_a, mo26_t, mo26_n, mo_fR28, mo28_a, mo28_t, mo28_n, mo_fR29, mo29_a, mo29_t, mo29_n, mo_fR30, mo30_a, mo30_t, mo30_n, mo_fR33, mo33_a, mo33_t, mo33_n, mo_fR36, mo36_a, mo36_t, mo36_n, mo_fR37, mo37_a, mo37_t, mo37_n, mo_fR40, mo40_a, mo40_t, mo40_n, fX11_room_L36, m_nb hmJ, e1, Option.isSome, bi_z]
        · by_cases hmk : m = k
          · rw [hmk]; exact e2
          · exact h4 m (by omega)
      | some a =>
        rw [e2] at e1
        refine Or.inl ⟨.inl (i32 k, mk K L r), ?_, K, k2, Or.inr ⟨k, a, rfl, ?_, e2, fun j hj => k4 a e2 j (by omega) hj⟩⟩
        · simp (disch := first | assumption | omega | rfl) only [i_rem, i_pred, i_addn1, i_lit, i_n1, i_add, i_mul, i_sub, i_le, i_lt, i_eq, i_ne1, n1_ne, n1_lt, n1_le, i_lt1, i_le1, bd_s, nar_bi, nar_0, nar_1, if_pos, if_neg, ↓reduceIte, reduceCtorEq, eq_self, if_true, if_false, not_true_eq_false, not_false_eq_true, mo_k, mo_fI, mo_fL, mo_pI, mo_pL, mo_z0, mo_z1, mo_fR1, mo1_a, mo1_t, mo1_n, mo_fR14, mo14_a, mo14_t, mo14_n, mo_fR15, mo15_a, mo15_t, mo15_n, mo_fR16, mo16_a, mo16_t, mo16_n, mo_fR17, mo17_a, mo17_t, mo17_n, mo_fR18, mo18_a, mo18_t, mo18_n, mo_fR19, mo19_a, mo19_t, mo19_n, mo_fR20, mo20_a, mo20_t, mo20_n, mo_fR21, mo21_a, mo21_t, mo21_n, mo_fR22, mo22_a, mo22_t, mo22_n, mo_fR25, mo25_a, mo25_t, mo25_n, mo_fR26, mo26_a, mo26_t, mo26_n, mo_fR28, mo28_a, mo28_t, mo28_n, mo_fR29, mo29_a, mo29_t, mo29_n, mo_fR30, mo30_a, mo30_t, mo30_n, mo_fR33, mo33_a, mo33_t, mo33_n, mo_fR36, mo36_a, mo36_t, mo36_n, mo_fR37, mo37_a, mo37_t, mo37_n, mo_fR40, mo40_a, mo40_t, mo40_n, fX11_room_L36, m_nb hmJ, e1, Option.isSome, bi_z]
        · exact fd_some.mpr ⟨by omega, by rw [e2]; rfl, fun m hm => by rw [h4 m hm]; rfl⟩) (n := N) (by omega) (s := (i32 0, I)) ⟨rfl, h0, fun _ _ _ => rfl, fun m hm => absurd hm (Nat.not_lt_zero m)⟩
  dsimp only at e1
  refine ⟨K, k1, ?_⟩
  rcases k2 with ⟨rfl, h⟩ | ⟨m, a, rfl, h⟩
  · exact Or.inl ⟨e1, h⟩
  · exact Or.inr ⟨m, a, e1, h⟩
theorem m_room61 (hN : 1200 < N) (hO : hOk H) (hm : MR H B I) {v : Int32} : ∃ K, fX11_room_L61 N 186 v N (i32 0) (mk I L r) = some (mk K L r) ∧ (∀ j, j < H 2 → K 200 j = I 199 j) ∧ ∀ q, q ≠ 200 → K q = I q := by
  have o0 := hO.1; have o1 := hO.2.1; have o2 := hO.2.2.1; have o3 := hO.2.2.2.1; have o4 := hO.2.2.2.2.1; have o5 := hO.2.2.2.2.2.1
  obtain ⟨K, e, g1, g2⟩ := lp_st (F := fun n' v' J => fX11_room_L61 N 186 v n' v' (mk J L r)) (m := H 2) (fun k J => (∀ b, b < k → J 200 b = I 199 b) ∧ ∀ q, q ≠ 200 → J q = I q) (fun J => mk J L r) (fun n' k J hk hJ => by
    obtain ⟨h1, h2⟩ := hJ
    have hmJ : MR H B J := by unfold MR; rw [h2 188 (by omega)]; exact hm
    have e1 : J 199 k = I 199 k := by rw [h2 199 (by omega)]
    refine ⟨up J 200 k (I 199 k), ?_, fun b hb => ?_, fun q hq => by rw [up_row hq]; exact h2 q hq⟩
    · simp (disch := first | assumption | omega | rfl) only [i_rem, i_pred, i_addn1, i_lit, i_n1, i_add, i_mul, i_sub, i_le, i_lt, i_eq, i_ne1, n1_ne, n1_lt, n1_le, i_lt1, i_le1, bd_s, nar_bi, nar_0, nar_1, if_pos, if_neg, ↓reduceIte, reduceCtorEq, eq_self, if_true, if_false, not_true_eq_false, not_false_eq_true, mo_k, mo_fI, mo_fL, mo_pI, mo_pL, mo_z0, mo_z1, mo_fR1, mo1_a, mo1_t, mo1_n, mo_fR14, mo14_a, mo14_t, mo14_n, mo_fR15, mo15_a, mo15_t, mo15_n, mo_fR16, mo16_a, mo16_t, mo16_n, mo_fR17, mo17_a, mo17_t, mo17_n, mo_fR18, mo18_a, mo18_t, mo18_n, mo_fR19, mo19_a, mo19_t, mo19_n, mo_fR20, mo20_a, mo20_t, mo20_n, mo_fR21, mo21_a, mo21_t, mo21_n, mo_fR22, mo22_a, mo22_t, mo22_n, mo_fR25, mo25_a, mo25_t, mo25_n, mo_fR26, mo26_a, mo26_t, mo26_n, mo_fR28, mo28_a, mo28_t, mo28_n, mo_fR29, mo29_a, mo29_t, mo29_n, mo_fR30, mo30_a, mo30_t, mo30_n, mo_fR33, mo33_a, mo33_t, mo33_n, mo_fR36, mo36_a, mo36_t, mo36_n, mo_fR37, mo37_a, mo37_t, mo37_n, mo_fR40, mo40_a, mo40_t, mo40_n, fX11_room_L61, m_nl hmJ, e1]
    · rw [up_at]
      by_cases hbk : b = k
      · rw [if_pos hbk, hbk]
      · rw [if_neg hbk]; exact h1 b (by omega)) (fun n' J hJ => by
    obtain ⟨h1, h2⟩ := hJ
    have hmJ : MR H B J := by unfold MR; rw [h2 188 (by omega)]; exact hm
    simp (disch := first | assumption | omega | rfl) only [i_rem, i_pred, i_addn1, i_lit, i_n1, i_add, i_mul, i_sub, i_le, i_lt, i_eq, i_ne1, n1_ne, n1_lt, n1_le, i_lt1, i_le1, bd_s, nar_bi, nar_0, nar_1, if_pos, if_neg, ↓reduceIte, reduceCtorEq, eq_self, if_true, if_false, not_true_eq_false, not_false_eq_true, mo_k, mo_fI, mo_fL, mo_pI, mo_pL, mo_z0, mo_z1, mo_fR1, mo1_a, mo1_t, mo1_n, mo_fR14, mo14_a, mo14_t, mo14_n, mo_fR15, mo15_a, mo15_t, mo15_n, mo_fR16, mo16_a, mo16_t, mo16_n, mo_fR17, mo17_a, mo17_t, mo17_n, mo_fR18, mo18_a, mo18_t, mo18_n, mo_fR19, mo19_a, mo19_t, mo19_n, mo_fR20, mo20_a, mo20_t, mo20_n, mo_fR21, mo21_a, mo21_t, mo21_n, mo_fR22, mo22_a, mo22_t, mo22_n, mo_fR25, mo25_a, mo25_t, mo25_n, mo_fR26, mo26_a, mo26_t, mo26_n, mo_fR28, mo28_a, mo28_t, mo28_n, mo_fR29, mo29_a, mo29_t, mo29_n, mo_fR30, mo30_a, mo30_t, mo30_n, mo_fR33, mo33_a, mo33_t, mo33_n, mo_fR36, mo36_a, mo36_t, mo36_n, mo_fR37, mo37_a, mo37_t, mo37_n, mo_fR40, mo40_a, mo40_t, mo40_n, fX11_room_L61, m_nl hmJ]) (n := N) (by omega) (s := I) ⟨fun b hb => absurd hb (Nat.not_lt_zero b), fun _ _ => rfl⟩
  exact ⟨K, e, g1, g2⟩
end
section
variable {I : Nat → Nat → Int32} {L : Nat → Nat → Int64} {r : Bool} {N : Nat}
theorem q_room (hN : 1200 < N) (h : Ok I L) : Step2 (fX10_room N 0) (fX11_room N 186) I L r := by
  obtain ⟨⟨H, W, B, D⟩, G, s, P, n, T, f, E, hC, hM, hI⟩ := h
  have hO : hOk H := hI.1.1
  have hB : bOk H B := hI.1.2.2
  have hs : RS 4 H I := hC.1.1
  have hb : BR 26 B I := hC.1.2.2.1
  have hm : MR H B (up I 186 0 (i32 0)) := WM_R (WM_t hM)
  have ha : isBe 26 = true := rfl
  have o0 := hO.1; have o1 := hO.2.1; have o2 := hO.2.2.1; have o3 := hO.2.2.2.1; have o4 := hO.2.2.2.2.1; have o5 := hO.2.2.2.2.2.1
  obtain ⟨J, e1, j1, j2⟩ := c_fewestBands (N := N) (L := L) (r := r) hN hO hs hb (a := E.2.1) hC.2.2.2.2.2.1
  have hM2 := WM_c (J := J) (K := L) (fun q hq => j2 q (by omega) (by omega) (by omega) (by omega)) (fun _ _ _ => rfl) hM
  have hM3 := WM_t (v := i32 0) hM2
  have hm2 := WM_R hM3
  obtain ⟨K1, e2, a1, a2⟩ := m_room7 (N := N) (I := up J 186 0 (i32 0)) (L := L) (r := r) hN
  have hm3 : MR H B K1 := by unfold MR; rw [a2 188 (by omega)]; exact hm2
  obtain ⟨K2, b1, b2⟩ := m_room36 (N := N) (L := L) (r := r) hN hO hm3 (fun b hb => by rw [a1 b (by omega)]; exact m_wd hm2 hb)
  have frC : ∀ K : Nat → Nat → Int32, (∀ q, q < 186 → K q = J q) → WC (H, W, B, D) G s P n T f (E.1, rsA H B (H 2) (FW0 H) (fun _ => n1) E.2.1 (rs H B (H 2) (FW0 H) 7), E.2.2) K L := by
    intro K hK
    have fr : ∀ q, q < 186 → q ≠ 128 → q ≠ 129 → q ≠ 130 → q ≠ 131 → K q = I q := fun q z0 z1 z2 z3 z4 => (hK q z0).trans (j2 q z1 z2 z3 z4)
    obtain ⟨⟨h1, h2, h3, h4, h9⟩, h5, h6, h7, h8⟩ := hC
    refine ⟨⟨RS_of (fun q z1 z2 => fr q (by omega) (by omega) (by omega) (by omega) (by omega)) h1, h2, BR_of (fun q z1 z2 => fr q (by omega) (by omega) (by omega) (by omega) (by omega)) h3, SS_of (fun q z1 z2 => fr q (by omega) (by omega) (by omega) (by omega) (by omega)) h4, LT_of (fr _ (by omega) (by omega) (by omega) (by omega) (by omega)) h9⟩, PR_of (fun q z1 z2 => fr q (by omega) (by omega) (by omega) (by omega) (by omega)) h5, fun k hk => CG_of hk (fun q z1 z2 => fr q (by omega) (by omega) (by omega) (by omega) (by omega)) (fun _ _ _ => rfl) (h6 k hk), CT_of (fr 1 (by omega) (by omega) (by omega) (by omega) (by omega)) (fr 2 (by omega) (by omega) (by omega) (by omega) (by omega)) rfl h7, ?_⟩
    obtain ⟨x1, x2, x3, x4, x5, x6⟩ := h8
    refine ⟨fun k hk => ?_, fun k hk => ?_, fun k hk => ?_, ?_, x5, fun k hk => ?_⟩
    · rw [fr 127 (by omega) (by omega) (by omega) (by omega) (by omega)]; exact x1 k hk
    · rw [hK 131 (by omega)]; exact j1 k hk
    · rw [fr 108 (by omega) (by omega) (by omega) (by omega) (by omega)]; exact x3 k hk
    · rw [fr 0 (by omega) (by omega) (by omega) (by omega) (by omega)]; exact x4
    · rw [fr 133 (by omega) (by omega) (by omega) (by omega) (by omega)]; exact x6 k hk
  have fr2 : ∀ q, q ≠ 186 → q ≠ 199 → q ≠ 201 → K2 q = J q := fun q z1 z2 z3 => by
    rw [b1 q z2 z3, a2 q z3, up_row z1]
  have fr3 : ∀ k, k ≠ 0 → K2 186 k = J 186 k := fun k hk => by
    rw [b1 186 (by omega) (by omega), a2 186 (by omega), up_ofk hk]
  rcases b2 with ⟨e3, ht⟩ | ⟨m, a, e3, ht, hp, ha2⟩
  · refine ⟨n1, J, L, r, K2, L, ?_, ?_, (H, W, B, D), G, s, P, n, T, f, (E.1, rsA H B (H 2) (FW0 H) (fun _ => n1) E.2.1 (rs H B (H 2) (FW0 H) 7), E.2.2), frC K2 (fun q hq => fr2 q (by omega) (by omega) (by omega)), ?_, hI⟩
    · rw [ht] at e1
      unfold fX10_room
      simp (disch := first | assumption | omega | rfl) only [i_rem, i_pred, i_addn1, i_lit, i_n1, i_add, i_mul, i_sub, i_le, i_lt, i_eq, i_ne1, n1_ne, n1_lt, n1_le, i_lt1, i_le1, bd_s, nar_bi, nar_0, nar_1, if_pos, if_neg, ↓reduceIte, reduceCtorEq, eq_self, if_true, if_false, not_true_eq_false, not_false_eq_true, x0_k, x0_fI, x0_fL, x0_pI, x0_pL, x0_z0, x0_z1, x0_fR0, x0_fR1, x0_fR2, x0_fR3, x0_fR4, x0_fR5, x0_fR6, x0_fR7, x0_fR8, x0_fR9, x0_fR10, x0_fR11, x0_fR12, x0_fR13, x013_a, x013_t, x013_n, x0_fR15, x0_fR16, x0_fR17, x0_fR18, x018_a, x018_t, x018_n, rm_k, rm_fI, rm_fL, rm_pI, rm_pL, rm_z0, rm_z1, rm_fR0, rm_fR1, rm1_a, rm1_t, rm1_n, rm_fR2, rm2_a, rm2_t, rm2_n, rm_fR3, rm3_a, rm3_t, rm3_n, e1, rsO]
    · unfold fX11_room
      simp (disch := first | assumption | omega | rfl) only [i_rem, i_pred, i_addn1, i_lit, i_n1, i_add, i_mul, i_sub, i_le, i_lt, i_eq, i_ne1, n1_ne, n1_lt, n1_le, i_lt1, i_le1, bd_s, nar_bi, nar_0, nar_1, if_pos, if_neg, ↓reduceIte, reduceCtorEq, eq_self, if_true, if_false, not_true_eq_false, not_false_eq_true, mo_k, mo_fI, mo_fL, mo_pI, mo_pL, mo_z0, mo_z1, mo_fR1, mo1_a, mo1_t, mo1_n, mo_fR14, mo14_a, mo14_t, mo14_n, mo_fR15, mo15_a, mo15_t, mo15_n, mo_fR16, mo16_a, mo16_t, mo16_n, mo_fR17, mo17_a, mo17_t, mo17_n, mo_fR18, mo18_a, mo18_t, mo18_n, mo_fR19, mo19_a, mo19_t, mo19_n, mo_fR20, mo20_a, mo20_t, mo20_n, mo_fR21, mo21_a, mo21_t, mo21_n, mo_fR22, mo22_a, mo22_t, mo22_n, mo_fR25, mo25_a, mo25_t, mo25_n, mo_fR26, mo26_a, mo26_t, mo26_n, mo_fR28, mo28_a, mo28_t, mo28_n, mo_fR29, mo29_a, mo29_t, mo29_n, mo_fR30, mo30_a, mo30_t, mo30_n, mo_fR33, mo33_a, mo33_t, mo33_n, mo_fR36, mo36_a, mo36_t, mo36_n, mo_fR37, mo37_a, mo37_t, mo37_n, mo_fR40, mo40_a, mo40_t, mo40_n, e2, e3]
    · rw [ht]
      obtain ⟨h1, h2, h3, h4, h5⟩ := hM2
      refine ⟨?_, ?_, ?_, ?_, ?_⟩
      · rw [fr2 188 (by omega) (by omega) (by omega)]; exact h1
      · unfold MP at *; rw [fr2 191 (by omega) (by omega) (by omega), fr3 24 (by omega)]; exact h2
      · exact fun k hk => MG_of (fr2 _ (by omega) (by omega) (by omega)) (fr2 _ (by omega) (by omega) (by omega)) rfl (h3 k hk)
      · unfold MT at *; rw [fr2 187 (by omega) (by omega) (by omega), fr3 2 (by omega), fr3 10 (by omega)]; exact h4
      · unfold ME at *; rw [fr2 198 (by omega) (by omega) (by omega), fr2 200 (by omega) (by omega) (by omega), fr2 202 (by omega) (by omega) (by omega), fr2 204 (by omega) (by omega) (by omega), fr3 27 (by omega), fr3 32 (by omega), fr3 31 (by omega), fr3 39 (by omega), fr3 34 (by omega)]; exact h5
  · obtain ⟨K3, e4, c1, c2⟩ := m_room61 (N := N) (L := L) (r := r) (v := i32 m) hN hO (show MR H B K2 by unfold MR; rw [b1 188 (by omega) (by omega)]; exact hm3)
    have hm5 : MR H B K3 := by unfold MR; rw [c2 188 (by omega), b1 188 (by omega) (by omega)]; exact hm3
    have fr4 : ∀ q, q ≠ 186 → q ≠ 199 → q ≠ 200 → q ≠ 201 → up (up K3 186 31 (i32 (H 2))) 186 32 (i32 1) q = J q := fun q z1 z2 z3 z4 => by
      rw [up_row z1, up_row z1, c2 q z3]; exact fr2 q z1 z2 z4
    have fr5 : ∀ k, k ≠ 0 → k ≠ 31 → k ≠ 32 → up (up K3 186 31 (i32 (H 2))) 186 32 (i32 1) 186 k = J 186 k := fun k z1 z2 z3 => by
      rw [up_ofk z3, up_ofk z2, c2 186 (by omega)]; exact fr3 k z1
    refine ⟨i32 m, J, L, r, up (up K3 186 31 (i32 (H 2))) 186 32 (i32 1), L, ?_, ?_, (H, W, B, D), G, s, P, n, T, f, (E.1, rsA H B (H 2) (FW0 H) (fun _ => n1) E.2.1 (rs H B (H 2) (FW0 H) 7), E.2.2), frC _ (fun q hq => fr4 q (by omega) (by omega) (by omega) (by omega)), ?_, hI⟩
    · rw [ht] at e1
      unfold fX10_room
      simp (disch := first | assumption | omega | rfl) only [i_rem, i_pred, i_addn1, i_lit, i_n1, i_add, i_mul, i_sub, i_le, i_lt, i_eq, i_ne1, n1_ne, n1_lt, n1_le, i_lt1, i_le1, bd_s, nar_bi, nar_0, nar_1, if_pos, if_neg, ↓reduceIte, reduceCtorEq, eq_self, if_true, if_false, not_true_eq_false, not_false_eq_true, x0_k, x0_fI, x0_fL, x0_pI, x0_pL, x0_z0, x0_z1, x0_fR0, x0_fR1, x0_fR2, x0_fR3, x0_fR4, x0_fR5, x0_fR6, x0_fR7, x0_fR8, x0_fR9, x0_fR10, x0_fR11, x0_fR12, x0_fR13, x013_a, x013_t, x013_n, x0_fR15, x0_fR16, x0_fR17, x0_fR18, x018_a, x018_t, x018_n, rm_k, rm_fI, rm_fL, rm_pI, rm_pL, rm_z0, rm_z1, rm_fR0, rm_fR1, rm1_a, rm1_t, rm1_n, rm_fR2, rm2_a, rm2_t, rm2_n, rm_fR3, rm3_a, rm3_t, rm3_n, e1, rsO]
    · unfold fX11_room
      simp (disch := first | assumption | omega | rfl) only [i_rem, i_pred, i_addn1, i_lit, i_n1, i_add, i_mul, i_sub, i_le, i_lt, i_eq, i_ne1, n1_ne, n1_lt, n1_le, i_lt1, i_le1, bd_s, nar_bi, nar_0, nar_1, if_pos, if_neg, ↓reduceIte, reduceCtorEq, eq_self, if_true, if_false, not_true_eq_false, not_false_eq_true, mo_k, mo_fI, mo_fL, mo_pI, mo_pL, mo_z0, mo_z1, mo_fR1, mo1_a, mo1_t, mo1_n, mo_fR14, mo14_a, mo14_t, mo14_n, mo_fR15, mo15_a, mo15_t, mo15_n, mo_fR16, mo16_a, mo16_t, mo16_n, mo_fR17, mo17_a, mo17_t, mo17_n, mo_fR18, mo18_a, mo18_t, mo18_n, mo_fR19, mo19_a, mo19_t, mo19_n, mo_fR20, mo20_a, mo20_t, mo20_n, mo_fR21, mo21_a, mo21_t, mo21_n, mo_fR22, mo22_a, mo22_t, mo22_n, mo_fR25, mo25_a, mo25_t, mo25_n, mo_fR26, mo26_a, mo26_t, mo26_n, mo_fR28, mo28_a, mo28_t, mo28_n, mo_fR29, mo29_a, mo29_t, mo29_n, mo_fR30, mo30_a, mo30_t, mo30_n, mo_fR33, mo33_a, mo33_t, mo33_n, mo_fR36, mo36_a, mo36_t, mo36_n, mo_fR37, mo37_a, mo37_t, mo37_n, mo_fR40, mo40_a, mo40_t, mo40_n, e2, e3, e4, m_nl hm5]
    · obtain ⟨h1, h2, h3, h4, h5⟩ := hM2
      refine ⟨?_, ?_, ?_, ?_, ?_⟩
      · rw [fr4 188 (by omega) (by omega) (by omega) (by omega)]; exact h1
      · unfold MP at *; rw [fr4 191 (by omega) (by omega) (by omega) (by omega), fr5 24 (by omega) (by omega) (by omega)]; exact h2
      · exact fun k hk => MG_of (fr4 _ (by omega) (by omega) (by omega) (by omega)) (fr4 _ (by omega) (by omega) (by omega) (by omega)) rfl (h3 k hk)
      · unfold MT at *; rw [fr4 187 (by omega) (by omega) (by omega) (by omega), fr5 2 (by omega) (by omega) (by omega), fr5 10 (by omega) (by omega) (by omega)]; exact h4
      · unfold ME at *
        rw [fr4 198 (by omega) (by omega) (by omega) (by omega), fr4 202 (by omega) (by omega) (by omega) (by omega), fr4 204 (by omega) (by omega) (by omega) (by omega), fr5 27 (by omega) (by omega) (by omega), fr5 39 (by omega) (by omega) (by omega), fr5 34 (by omega) (by omega) (by omega)]
        refine ⟨h5.1, Or.inr ⟨up_self, H 2, by omega, by rw [up_ofk (by omega), up_self], fun k hk => ?_, fun k z1 z2 => ?_⟩, h5.2.2⟩
        · rw [up_row (by omega), up_row (by omega), c1 k hk, ha2 k hk, ht]
          dsimp only [rsA]
          rw [cmb, if_neg (by omega), hp]; rfl
        · rw [ht]
          dsimp only [rsA]
          rw [cmb, if_neg (by omega), hp]
          exact rP_in (H 2) (FW0 H) a (Nat.le_refl _) hp k (Or.inr z1)
end
