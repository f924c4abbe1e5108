section
variable {I : Nat → Nat → Int32} {L : Nat → Nat → Int64} {r : Bool} {N : Nat}
theorem PR_8 {s : Nat} {P : Nat → Nat → Int32} (h : PR s P I) : s ≤ 8 := by
  obtain ⟨f, _, h8, _⟩ := h
  exact h8
theorem why_n0 {c d : Prop} [Decidable c] [Decidable d] : ¬ (c ∧ d) → ¬ ((if c then (if d then i32 0 else i32 2) else i32 1) = i32 0) := fun h z => h (why_0.mp z)
theorem q_write (hN : 1200 < N) (h : Ok I L) {u v x y : Int32} : Step2 (fX10_write N 0 u v x y) (fX11_write N 186 u v x y) I L r := by
  obtain ⟨⟨H, W, B, D⟩, G, s, P, n, T, f, E, hC, hM, hI⟩ := h
  have hO : hOk H := hI.1.1
  have hB : bOk H B := hI.1.2.2
  have hs : RS 4 H I := hC.1.1
  have hb : BR 26 B I := hC.1.2.2.1
  have hm : MR H B (up I 186 0 (i32 0)) := WM_R (WM_t hM)
  have ha : isBe 26 = true := rfl
  have o0 := hO.1; have o1 := hO.2.1; have o2 := hO.2.2.1; have o3 := hO.2.2.2.1; have o4 := hO.2.2.2.2.1; have o5 := hO.2.2.2.2.2.1
  rcases i_in u (n := H 1) (by omega) with ⟨w, hw, rfl⟩ | hu
  · rcases i_in v (n := H 0) (by omega) with ⟨b, hbb, rfl⟩ | hv
    · have wd_b := hO.2.2.2.2.2.2.1 b (by assumption)
      rcases i_in x (n := H (11 + b)) (by omega) with ⟨p, hp, rfl⟩ | hx
      · rcases i_in y (n := 10) (by omega) with ⟨k, hk, rfl⟩ | hy
        · have e9 := in_in (k := k) (m := 9) (by omega) (by omega)
          by_cases hc : B (10 + w) < i32 (H (25 + w)) ∧ B (20 + (12 * b + p)) = n1
          · obtain ⟨J, e1, g1, g2⟩ := c_keepCopy (N := N) (L := L) (r := r) hC.2.1 hb
            have hb' : BR 26 B J := BR_of (fun q h1 h2 => g2 q (by omega)) hb
            obtain ⟨J2, e2, g3, g4⟩ := c_putSign (N := N) (L := L) (r := r) (s := k) hO ha hb' hw hbb hp (by omega) hc.2
            have fr : ∀ q, (q < 26 ∨ 108 ≤ q) → q ≠ 132 → J2 q = I q := fun q hq _ => (g4 q (by omega)).trans (g2 q (by omega))
            have hC2 := WC_act hC g3 (PR_of (fun q h1 h2 => g4 q (by omega)) g1) fr
            have hM2 := WM_c (J := J2) (K := L) (fun q hq => fr q (by omega) (by omega)) (fun _ _ _ => rfl) hM
            have hM3 := WM_t (v := i32 0) hM2
            have hm2 := WM_R hM3
            obtain ⟨J3, e3, g5, g6, g7⟩ := m_snap (N := N) (L := L) (r := r) hN hM3.2.1 hm2.2
            have hm3 : MR H B J3 := by
              unfold MR; rw [g6 188 (by omega) (by omega)]; exact hm2
            obtain ⟨J4, e4, g8, g9, g10⟩ := m_doWrite (N := N) (L := L) (r := r) (w := w) (b := b) (p := p) (s := k) hO hm3 (by omega) (by omega) (by omega)
            refine ⟨i32 0, J2, L, r, J4, L, ?_, ?_, (H, W, pw B w (12 * b + p) k, D), G, pushN s, pushP s P B, n, T, f, E, ?_, ?_, ?_⟩
            · unfold fX10_write
              simp (disch := first | assumption | omega | rfl) only [i_rem, i_pred, i_addn1, i_lit, i_n1, i_add, i_mul, i_sub, i_le, i_lt, i_eq, i_ne1, n1_ne, n1_lt, n1_le, i_lt1, i_le1, bd_s, nar_bi, nar_0, nar_1, if_pos, if_neg, ↓reduceIte, reduceCtorEq, eq_self, if_true, if_false, not_true_eq_false, not_false_eq_true, x0_k, x0_fI, x0_fL, x0_pI, x0_pL, x0_z0, x0_z1, x0_fR0, x0_fR1, x0_fR2, x0_fR3, x0_fR4, x0_fR5, x0_fR6, x0_fR7, x0_fR8, x0_fR9, x0_fR10, x0_fR11, x0_fR12, x0_fR13, x013_a, x013_t, x013_n, x0_fR15, x0_fR16, x0_fR17, x0_fR18, x018_a, x018_t, x018_n, s4_k, s4_fI, s4_fL, s4_pI, s4_pL, s4_z0, s4_z1, s4_fR1, s41_a, s41_t, s41_n, s4_fR2, s42_a, s42_t, s42_n, s4_fR3, s43_a, s43_t, s43_n, s4_fR5, s45_a, s45_t, s45_n, s4_fR7, s47_a, s47_t, s47_n, s4_fR8, s48_a, s48_t, s48_n, s4_fR10, s410_a, s410_t, s410_n, s4_fR11, s411_a, s411_t, s411_n, s4_fR12, s412_a, s412_t, s412_n, s4_fR13, s413_a, s413_t, s413_n, be_k, be_fI, be_fL, be_pI, be_pL, be_z0, be_z1, be_fR0, be_fR1, be1_a, be1_t, be1_n, be_fR2, be2_a, be2_t, be2_n, be_fR3, be3_a, be3_t, be3_n, be_fR4, be4_a, be4_t, be4_n, be_fR5, be5_a, be5_t, be5_n, be_fR6, be6_a, be6_t, be6_n, be_fR7, be7_a, be7_t, be7_n, pa_k, pa_fI, pa_fL, pa_pI, pa_pL, pa_z0, pa_z1, pa_fR0, c_hasWriter hO hs, c_hasPlace hO hs, hw, hp, decide_true, bi_z, c_whyNotWrite hO hs ha hb, hc, e1, e2]
            · unfold fX11_write
              simp (disch := first | assumption | omega | rfl) only [i_rem, i_pred, i_addn1, i_lit, i_n1, i_add, i_mul, i_sub, i_le, i_lt, i_eq, i_ne1, n1_ne, n1_lt, n1_le, i_lt1, i_le1, bd_s, nar_bi, nar_0, nar_1, if_pos, if_neg, ↓reduceIte, reduceCtorEq, eq_self, if_true, if_false, not_true_eq_false, not_false_eq_true, mo_k, mo_fI, mo_fL, mo_pI, mo_pL, mo_z0, mo_z1, mo_fR1, mo1_a, mo1_t, mo1_n, mo_fR14, mo14_a, mo14_t, mo14_n, mo_fR15, mo15_a, mo15_t, mo15_n, mo_fR16, mo16_a, mo16_t, mo16_n, mo_fR17, mo17_a, mo17_t, mo17_n, mo_fR18, mo18_a, mo18_t, mo18_n, mo_fR19, mo19_a, mo19_t, mo19_n, mo_fR20, mo20_a, mo20_t, mo20_n, mo_fR21, mo21_a, mo21_t, mo21_n, mo_fR22, mo22_a, mo22_t, mo22_n, mo_fR25, mo25_a, mo25_t, mo25_n, mo_fR26, mo26_a, mo26_t, mo26_n, mo_fR28, mo28_a, mo28_t, mo28_n, mo_fR29, mo29_a, mo29_t, mo29_n, mo_fR30, mo30_a, mo30_t, mo30_n, mo_fR33, mo33_a, mo33_t, mo33_n, mo_fR36, mo36_a, mo36_t, mo36_n, mo_fR37, mo37_a, mo37_t, mo37_n, mo_fR40, mo40_a, mo40_t, mo40_n, m_isWriter hO hm2, m_isBand hO hm2, m_isPlace hO hm2, m_isInT e9, hw, hbb, hp, decide_true, bi_z, m_whyWrite hO hm2, hc, e3, e4]
            · refine WC_of (fun q hq => ?_) (fun _ _ => rfl) hC2
              rw [g9 q (by omega), g6 q (by omega) (by omega), up_row (by omega)]
            · refine WM_act hM2 g8 ?_ (fun q h1 h2 h3 h4 => ?_) (fun k' h1 h2 h3 => ?_) (fun k' h1 => ?_)
              · unfold MP at *; rw [g9 186 (by omega), g9 191 (by omega)]; exact g5
              · rw [g9 q (by omega), g6 q (by omega) (by omega), up_row (by omega)]
              · rw [g9 186 (by omega), g7 k' (by omega), up_ofk (by omega)]
              · rw [g10 k' (by omega), g6 188 (by omega) (by omega), up_row (by omega)]
            · refine ⟨⟨hO, hI.1.2.1, ?_, bQ_pw hO hB.2 hw hbb hp⟩, hI.2.1, bOk_push hI.2.2.1 (PR_8 hC.2.1) hB, hI.2.2.2⟩
              obtain ⟨h0, hh, hz⟩ := hB.1
              exact ⟨h0, hh, by simp (disch := omega) only [up_at, up_off, upL_at, upL_off, if_pos, if_neg, if_true, true_or, or_true, true_and, and_true, pw]; exact hz⟩
          · refine Step_q (x := if B (10 + w) < i32 (H (25 + w)) then (if B (20 + (12 * b + p)) = n1 then i32 0 else i32 2) else i32 1) (v := i32 0) ⟨hC, hM, hI⟩ ?_ ?_
            · unfold fX10_write
              simp (disch := first | assumption | omega | rfl) only [i_rem, i_pred, i_addn1, i_lit, i_n1, i_add, i_mul, i_sub, i_le, i_lt, i_eq, i_ne1, n1_ne, n1_lt, n1_le, i_lt1, i_le1, bd_s, nar_bi, nar_0, nar_1, if_pos, if_neg, ↓reduceIte, reduceCtorEq, eq_self, if_true, if_false, not_true_eq_false, not_false_eq_true, x0_k, x0_fI, x0_fL, x0_pI, x0_pL, x0_z0, x0_z1, x0_fR0, x0_fR1, x0_fR2, x0_fR3, x0_fR4, x0_fR5, x0_fR6, x0_fR7, x0_fR8, x0_fR9, x0_fR10, x0_fR11, x0_fR12, x0_fR13, x013_a, x013_t, x013_n, x0_fR15, x0_fR16, x0_fR17, x0_fR18, x018_a, x018_t, x018_n, s4_k, s4_fI, s4_fL, s4_pI, s4_pL, s4_z0, s4_z1, s4_fR1, s41_a, s41_t, s41_n, s4_fR2, s42_a, s42_t, s42_n, s4_fR3, s43_a, s43_t, s43_n, s4_fR5, s45_a, s45_t, s45_n, s4_fR7, s47_a, s47_t, s47_n, s4_fR8, s48_a, s48_t, s48_n, s4_fR10, s410_a, s410_t, s410_n, s4_fR11, s411_a, s411_t, s411_n, s4_fR12, s412_a, s412_t, s412_n, s4_fR13, s413_a, s413_t, s413_n, be_k, be_fI, be_fL, be_pI, be_pL, be_z0, be_z1, be_fR0, be_fR1, be1_a, be1_t, be1_n, be_fR2, be2_a, be2_t, be2_n, be_fR3, be3_a, be3_t, be3_n, be_fR4, be4_a, be4_t, be4_n, be_fR5, be5_a, be5_t, be5_n, be_fR6, be6_a, be6_t, be6_n, be_fR7, be7_a, be7_t, be7_n, c_hasWriter hO hs, c_hasPlace hO hs, hw, hp, decide_true, bi_z, c_whyNotWrite hO hs ha hb]
              rw [if_neg (why_n0 hc)]
            · unfold fX11_write
              simp (disch := first | assumption | omega | rfl) only [i_rem, i_pred, i_addn1, i_lit, i_n1, i_add, i_mul, i_sub, i_le, i_lt, i_eq, i_ne1, n1_ne, n1_lt, n1_le, i_lt1, i_le1, bd_s, nar_bi, nar_0, nar_1, if_pos, if_neg, ↓reduceIte, reduceCtorEq, eq_self, if_true, if_false, not_true_eq_false, not_false_eq_true, mo_k, mo_fI, mo_fL, mo_pI, mo_pL, mo_z0, mo_z1, mo_fR1, mo1_a, mo1_t, mo1_n, mo_fR14, mo14_a, mo14_t, mo14_n, mo_fR15, mo15_a, mo15_t, mo15_n, mo_fR16, mo16_a, mo16_t, mo16_n, mo_fR17, mo17_a, mo17_t, mo17_n, mo_fR18, mo18_a, mo18_t, mo18_n, mo_fR19, mo19_a, mo19_t, mo19_n, mo_fR20, mo20_a, mo20_t, mo20_n, mo_fR21, mo21_a, mo21_t, mo21_n, mo_fR22, mo22_a, mo22_t, mo22_n, mo_fR25, mo25_a, mo25_t, mo25_n, mo_fR26, mo26_a, mo26_t, mo26_n, mo_fR28, mo28_a, mo28_t, mo28_n, mo_fR29, mo29_a, mo29_t, mo29_n, mo_fR30, mo30_a, mo30_t, mo30_n, mo_fR33, mo33_a, mo33_t, mo33_n, mo_fR36, mo36_a, mo36_t, mo36_n, mo_fR37, mo37_a, mo37_t, mo37_n, mo_fR40, mo40_a, mo40_t, mo40_n, m_isWriter hO hm, m_isBand hO hm, m_isPlace hO hm, m_isInT e9, hw, hbb, hp, decide_true, bi_z, m_whyWrite hO hm]
              rw [if_neg (why_n0 hc)]
        · have e9 := in_out (n := 10) (by omega) (by omega) hy
          refine Step_q (x := n1) (v := i32 0) ⟨hC, hM, hI⟩ ?_ ?_
          · unfold fX10_write
            simp (disch := first | assumption | omega | rfl) only [i_rem, i_pred, i_addn1, i_lit, i_n1, i_add, i_mul, i_sub, i_le, i_lt, i_eq, i_ne1, n1_ne, n1_lt, n1_le, i_lt1, i_le1, bd_s, nar_bi, nar_0, nar_1, if_pos, if_neg, ↓reduceIte, reduceCtorEq, eq_self, if_true, if_false, not_true_eq_false, not_false_eq_true, x0_k, x0_fI, x0_fL, x0_pI, x0_pL, x0_z0, x0_z1, x0_fR0, x0_fR1, x0_fR2, x0_fR3, x0_fR4, x0_fR5, x0_fR6, x0_fR7, x0_fR8, x0_fR9, x0_fR10, x0_fR11, x0_fR12, x0_fR13, x013_a, x013_t, x013_n, x0_fR15, x0_fR16, x0_fR17, x0_fR18, x018_a, x018_t, x018_n, s4_k, s4_fI, s4_fL, s4_pI, s4_pL, s4_z0, s4_z1, s4_fR1, s41_a, s41_t, s41_n, s4_fR2, s42_a, s42_t, s42_n, s4_fR3, s43_a, s43_t, s43_n, s4_fR5, s45_a, s45_t, s45_n, s4_fR7, s47_a, s47_t, s47_n, s4_fR8, s48_a, s48_t, s48_n, s4_fR10, s410_a, s410_t, s410_n, s4_fR11, s411_a, s411_t, s411_n, s4_fR12, s412_a, s412_t, s412_n, s4_fR13, s413_a, s413_t, s413_n, be_k, be_fI, be_fL, be_pI, be_pL, be_z0, be_z1, be_fR0, be_fR1, be1_a, be1_t, be1_n, be_fR2, be2_a, be2_t, be2_n, be_fR3, be3_a, be3_t, be3_n, be_fR4, be4_a, be4_t, be4_n, be_fR5, be5_a, be5_t, be5_n, be_fR6, be6_a, be6_t, be6_n, be_fR7, be7_a, be7_t, be7_n, c_hasWriter hO hs, c_hasPlace hO hs, hw, hp, decide_true, bi_z]
            rcases hy with hy | ⟨hy0, hy⟩
            · have hy' : y < i32 0 := hy
              rw [if_pos hy']
            · have h9 : ¬ y ≤ i32 9 := by
                rw [Int32.le_iff_toInt_le, i_toInt (by omega)]; rw [Int32.le_iff_toInt_le, i_toInt (by omega)] at hy; omega
              rw [if_neg h9]; split <;> rfl
          · unfold fX11_write
            simp (disch := first | assumption | omega | rfl) only [i_rem, i_pred, i_addn1, i_lit, i_n1, i_add, i_mul, i_sub, i_le, i_lt, i_eq, i_ne1, n1_ne, n1_lt, n1_le, i_lt1, i_le1, bd_s, nar_bi, nar_0, nar_1, if_pos, if_neg, ↓reduceIte, reduceCtorEq, eq_self, if_true, if_false, not_true_eq_false, not_false_eq_true, mo_k, mo_fI, mo_fL, mo_pI, mo_pL, mo_z0, mo_z1, mo_fR1, mo1_a, mo1_t, mo1_n, mo_fR14, mo14_a, mo14_t, mo14_n, mo_fR15, mo15_a, mo15_t, mo15_n, mo_fR16, mo16_a, mo16_t, mo16_n, mo_fR17, mo17_a, mo17_t, mo17_n, mo_fR18, mo18_a, mo18_t, mo18_n, mo_fR19, mo19_a, mo19_t, mo19_n, mo_fR20, mo20_a, mo20_t, mo20_n, mo_fR21, mo21_a, mo21_t, mo21_n, mo_fR22, mo22_a, mo22_t, mo22_n, mo_fR25, mo25_a, mo25_t, mo25_n, mo_fR26, mo26_a, mo26_t, mo26_n, mo_fR28, mo28_a, mo28_t, mo28_n, mo_fR29, mo29_a, mo29_t, mo29_n, mo_fR30, mo30_a, mo30_t, mo30_n, mo_fR33, mo33_a, mo33_t, mo33_n, mo_fR36, mo36_a, mo36_t, mo36_n, mo_fR37, mo37_a, mo37_t, mo37_n, mo_fR40, mo40_a, mo40_t, mo40_n, m_isWriter hO hm, m_isBand hO hm, m_isPlace hO hm, m_isInF e9, hw, hbb, hp, decide_true, bi_z]
      · refine Step_q (x := n1) (v := i32 0) ⟨hC, hM, hI⟩ ?_ ?_
        · unfold fX10_write
          simp (disch := first | assumption | omega | rfl) only [i_rem, i_pred, i_addn1, i_lit, i_n1, i_add, i_mul, i_sub, i_le, i_lt, i_eq, i_ne1, n1_ne, n1_lt, n1_le, i_lt1, i_le1, bd_s, nar_bi, nar_0, nar_1, if_pos, if_neg, ↓reduceIte, reduceCtorEq, eq_self, if_true, if_false, not_true_eq_false, not_false_eq_true, x0_k, x0_fI, x0_fL, x0_pI, x0_pL, x0_z0, x0_z1, x0_fR0, x0_fR1, x0_fR2, x0_fR3, x0_fR4, x0_fR5, x0_fR6, x0_fR7, x0_fR8, x0_fR9, x0_fR10, x0_fR11, x0_fR12, x0_fR13, x013_a, x013_t, x013_n, x0_fR15, x0_fR16, x0_fR17, x0_fR18, x018_a, x018_t, x018_n, s4_k, s4_fI, s4_fL, s4_pI, s4_pL, s4_z0, s4_z1, s4_fR1, s41_a, s41_t, s41_n, s4_fR2, s42_a, s42_t, s42_n, s4_fR3, s43_a, s43_t, s43_n, s4_fR5, s45_a, s45_t, s45_n, s4_fR7, s47_a, s47_t, s47_n, s4_fR8, s48_a, s48_t, s48_n, s4_fR10, s410_a, s410_t, s410_n, s4_fR11, s411_a, s411_t, s411_n, s4_fR12, s412_a, s412_t, s412_n, s4_fR13, s413_a, s413_t, s413_n, be_k, be_fI, be_fL, be_pI, be_pL, be_z0, be_z1, be_fR0, be_fR1, be1_a, be1_t, be1_n, be_fR2, be2_a, be2_t, be2_n, be_fR3, be3_a, be3_t, be3_n, be_fR4, be4_a, be4_t, be4_n, be_fR5, be5_a, be5_t, be5_n, be_fR6, be6_a, be6_t, be6_n, be_fR7, be7_a, be7_t, be7_n, c_hasWriter hO hs, c_hasPlace_n2 hO hs hbb hx, hw, decide_true, bi_z]
        · unfold fX11_write
          simp (disch := first | assumption | omega | rfl) only [i_rem, i_pred, i_addn1, i_lit, i_n1, i_add, i_mul, i_sub, i_le, i_lt, i_eq, i_ne1, n1_ne, n1_lt, n1_le, i_lt1, i_le1, bd_s, nar_bi, nar_0, nar_1, if_pos, if_neg, ↓reduceIte, reduceCtorEq, eq_self, if_true, if_false, not_true_eq_false, not_false_eq_true, mo_k, mo_fI, mo_fL, mo_pI, mo_pL, mo_z0, mo_z1, mo_fR1, mo1_a, mo1_t, mo1_n, mo_fR14, mo14_a, mo14_t, mo14_n, mo_fR15, mo15_a, mo15_t, mo15_n, mo_fR16, mo16_a, mo16_t, mo16_n, mo_fR17, mo17_a, mo17_t, mo17_n, mo_fR18, mo18_a, mo18_t, mo18_n, mo_fR19, mo19_a, mo19_t, mo19_n, mo_fR20, mo20_a, mo20_t, mo20_n, mo_fR21, mo21_a, mo21_t, mo21_n, mo_fR22, mo22_a, mo22_t, mo22_n, mo_fR25, mo25_a, mo25_t, mo25_n, mo_fR26, mo26_a, mo26_t, mo26_n, mo_fR28, mo28_a, mo28_t, mo28_n, mo_fR29, mo29_a, mo29_t, mo29_n, mo_fR30, mo30_a, mo30_t, mo30_n, mo_fR33, mo33_a, mo33_t, mo33_n, mo_fR36, mo36_a, mo36_t, mo36_n, mo_fR37, mo37_a, mo37_t, mo37_n, mo_fR40, mo40_a, mo40_t, mo40_n, m_isWriter hO hm, m_isBand hO hm, m_isPlace_n hO hm hbb hx, hw, hbb, decide_true, bi_z]
    · refine Step_q (x := n1) (v := i32 0) ⟨hC, hM, hI⟩ ?_ ?_
      · unfold fX10_write
        simp (disch := first | assumption | omega | rfl) only [i_rem, i_pred, i_addn1, i_lit, i_n1, i_add, i_mul, i_sub, i_le, i_lt, i_eq, i_ne1, n1_ne, n1_lt, n1_le, i_lt1, i_le1, bd_s, nar_bi, nar_0, nar_1, if_pos, if_neg, ↓reduceIte, reduceCtorEq, eq_self, if_true, if_false, not_true_eq_false, not_false_eq_true, x0_k, x0_fI, x0_fL, x0_pI, x0_pL, x0_z0, x0_z1, x0_fR0, x0_fR1, x0_fR2, x0_fR3, x0_fR4, x0_fR5, x0_fR6, x0_fR7, x0_fR8, x0_fR9, x0_fR10, x0_fR11, x0_fR12, x0_fR13, x013_a, x013_t, x013_n, x0_fR15, x0_fR16, x0_fR17, x0_fR18, x018_a, x018_t, x018_n, s4_k, s4_fI, s4_fL, s4_pI, s4_pL, s4_z0, s4_z1, s4_fR1, s41_a, s41_t, s41_n, s4_fR2, s42_a, s42_t, s42_n, s4_fR3, s43_a, s43_t, s43_n, s4_fR5, s45_a, s45_t, s45_n, s4_fR7, s47_a, s47_t, s47_n, s4_fR8, s48_a, s48_t, s48_n, s4_fR10, s410_a, s410_t, s410_n, s4_fR11, s411_a, s411_t, s411_n, s4_fR12, s412_a, s412_t, s412_n, s4_fR13, s413_a, s413_t, s413_n, be_k, be_fI, be_fL, be_pI, be_pL, be_z0, be_z1, be_fR0, be_fR1, be1_a, be1_t, be1_n, be_fR2, be2_a, be2_t, be2_n, be_fR3, be3_a, be3_t, be3_n, be_fR4, be4_a, be4_t, be4_n, be_fR5, be5_a, be5_t, be5_n, be_fR6, be6_a, be6_t, be6_n, be_fR7, be7_a, be7_t, be7_n, c_hasWriter hO hs, c_hasPlace_n1 hs hv, hw, decide_true, bi_z]
      · unfold fX11_write
        simp (disch := first | assumption | omega | rfl) only [i_rem, i_pred, i_addn1, i_lit, i_n1, i_add, i_mul, i_sub, i_le, i_lt, i_eq, i_ne1, n1_ne, n1_lt, n1_le, i_lt1, i_le1, bd_s, nar_bi, nar_0, nar_1, if_pos, if_neg, ↓reduceIte, reduceCtorEq, eq_self, if_true, if_false, not_true_eq_false, not_false_eq_true, mo_k, mo_fI, mo_fL, mo_pI, mo_pL, mo_z0, mo_z1, mo_fR1, mo1_a, mo1_t, mo1_n, mo_fR14, mo14_a, mo14_t, mo14_n, mo_fR15, mo15_a, mo15_t, mo15_n, mo_fR16, mo16_a, mo16_t, mo16_n, mo_fR17, mo17_a, mo17_t, mo17_n, mo_fR18, mo18_a, mo18_t, mo18_n, mo_fR19, mo19_a, mo19_t, mo19_n, mo_fR20, mo20_a, mo20_t, mo20_n, mo_fR21, mo21_a, mo21_t, mo21_n, mo_fR22, mo22_a, mo22_t, mo22_n, mo_fR25, mo25_a, mo25_t, mo25_n, mo_fR26, mo26_a, mo26_t, mo26_n, mo_fR28, mo28_a, mo28_t, mo28_n, mo_fR29, mo29_a, mo29_t, mo29_n, mo_fR30, mo30_a, mo30_t, mo30_n, mo_fR33, mo33_a, mo33_t, mo33_n, mo_fR36, mo36_a, mo36_t, mo36_n, mo_fR37, mo37_a, mo37_t, mo37_n, mo_fR40, mo40_a, mo40_t, mo40_n, m_isWriter hO hm, m_isBand_n hO hm hv, hw, decide_true, bi_z]
  · refine Step_q (x := n1) (v := i32 0) ⟨hC, hM, hI⟩ ?_ ?_
    · unfold fX10_write
      simp (disch := first | assumption | omega | rfl) only [i_rem, i_pred, i_addn1, i_lit, i_n1, i_add, i_mul, i_sub, i_le, i_lt, i_eq, i_ne1, n1_ne, n1_lt, n1_le, i_lt1, i_le1, bd_s, nar_bi, nar_0, nar_1, if_pos, if_neg, ↓reduceIte, reduceCtorEq, eq_self, if_true, if_false, not_true_eq_false, not_false_eq_true, x0_k, x0_fI, x0_fL, x0_pI, x0_pL, x0_z0, x0_z1, x0_fR0, x0_fR1, x0_fR2, x0_fR3, x0_fR4, x0_fR5, x0_fR6, x0_fR7, x0_fR8, x0_fR9, x0_fR10, x0_fR11, x0_fR12, x0_fR13, x013_a, x013_t, x013_n, x0_fR15, x0_fR16, x0_fR17, x0_fR18, x018_a, x018_t, x018_n, s4_k, s4_fI, s4_fL, s4_pI, s4_pL, s4_z0, s4_z1, s4_fR1, s41_a, s41_t, s41_n, s4_fR2, s42_a, s42_t, s42_n, s4_fR3, s43_a, s43_t, s43_n, s4_fR5, s45_a, s45_t, s45_n, s4_fR7, s47_a, s47_t, s47_n, s4_fR8, s48_a, s48_t, s48_n, s4_fR10, s410_a, s410_t, s410_n, s4_fR11, s411_a, s411_t, s411_n, s4_fR12, s412_a, s412_t, s412_n, s4_fR13, s413_a, s413_t, s413_n, be_k, be_fI, be_fL, be_pI, be_pL, be_z0, be_z1, be_fR0, be_fR1, be1_a, be1_t, be1_n, be_fR2, be2_a, be2_t, be2_n, be_fR3, be3_a, be3_t, be3_n, be_fR4, be4_a, be4_t, be4_n, be_fR5, be5_a, be5_t, be5_n, be_fR6, be6_a, be6_t, be6_n, be_fR7, be7_a, be7_t, be7_n, c_hasWriter_n hs hu]
    · unfold fX11_write
      simp (disch := first | assumption | omega | rfl) only [i_rem, i_pred, i_addn1, i_lit, i_n1, i_add, i_mul, i_sub, i_le, i_lt, i_eq, i_ne1, n1_ne, n1_lt, n1_le, i_lt1, i_le1, bd_s, nar_bi, nar_0, nar_1, if_pos, if_neg, ↓reduceIte, reduceCtorEq, eq_self, if_true, if_false, not_true_eq_false, not_false_eq_true, mo_k, mo_fI, mo_fL, mo_pI, mo_pL, mo_z0, mo_z1, mo_fR1, mo1_a, mo1_t, mo1_n, mo_fR14, mo14_a, mo14_t, mo14_n, mo_fR15, mo15_a, mo15_t, mo15_n, mo_fR16, mo16_a, mo16_t, mo16_n, mo_fR17, mo17_a, mo17_t, mo17_n, mo_fR18, mo18_a, mo18_t, mo18_n, mo_fR19, mo19_a, mo19_t, mo19_n, mo_fR20, mo20_a, mo20_t, mo20_n, mo_fR21, mo21_a, mo21_t, mo21_n, mo_fR22, mo22_a, mo22_t, mo22_n, mo_fR25, mo25_a, mo25_t, mo25_n, mo_fR26, mo26_a, mo26_t, mo26_n, mo_fR28, mo28_a, mo28_t, mo28_n, mo_fR29, mo29_a, mo29_t, mo29_n, mo_fR30, mo30_a, mo30_t, mo30_n, mo_fR33, mo33_a, mo33_t, mo33_n, mo_fR36, mo36_a, mo36_t, mo36_n, mo_fR37, mo37_a, mo37_t, mo37_n, mo_fR40, mo40_a, mo40_t, mo40_n, m_isWriter_n hO hm hu]
theorem q_tread (hN : 1200 < N) (h : Ok I L) {v x : Int32} : Step2 (fX10_tread N 0 v x) (fX11_tread N 186 v x) I L r := by
  obtain ⟨⟨H, W, B, D⟩, G, s, P, n, T, f, E, hC, hM, hI⟩ := h
  have hO : hOk H := hI.1.1
  have hB : bOk H B := hI.1.2.2
  have hs : RS 4 H I := hC.1.1
  have hb : BR 26 B I := hC.1.2.2.1
  have hm : MR H B (up I 186 0 (i32 0)) := WM_R (WM_t hM)
  have ha : isBe 26 = true := rfl
  have o0 := hO.1; have o1 := hO.2.1; have o2 := hO.2.2.1; have o3 := hO.2.2.2.1; have o4 := hO.2.2.2.2.1; have o5 := hO.2.2.2.2.2.1
  rcases i_in v (n := H 0) (by omega) with ⟨b, hbb, rfl⟩ | hv
  · have wd_b := hO.2.2.2.2.2.2.1 b (by assumption)
    rcases i_in x (n := H (11 + b)) (by omega) with ⟨p, hp, rfl⟩ | hx
    · by_cases hc : B (20 + (12 * b + p)) = n1
      · refine Step_q (x := i32 1) (v := i32 0) ⟨hC, hM, hI⟩ ?_ ?_
        · unfold fX10_tread
          simp (disch := first | assumption | omega | rfl) only [i_rem, i_pred, i_addn1, i_lit, i_n1, i_add, i_mul, i_sub, i_le, i_lt, i_eq, i_ne1, n1_ne, n1_lt, n1_le, i_lt1, i_le1, bd_s, nar_bi, nar_0, nar_1, if_pos, if_neg, ↓reduceIte, reduceCtorEq, eq_self, if_true, if_false, not_true_eq_false, not_false_eq_true, x0_k, x0_fI, x0_fL, x0_pI, x0_pL, x0_z0, x0_z1, x0_fR0, x0_fR1, x0_fR2, x0_fR3, x0_fR4, x0_fR5, x0_fR6, x0_fR7, x0_fR8, x0_fR9, x0_fR10, x0_fR11, x0_fR12, x0_fR13, x013_a, x013_t, x013_n, x0_fR15, x0_fR16, x0_fR17, x0_fR18, x018_a, x018_t, x018_n, s4_k, s4_fI, s4_fL, s4_pI, s4_pL, s4_z0, s4_z1, s4_fR1, s41_a, s41_t, s41_n, s4_fR2, s42_a, s42_t, s42_n, s4_fR3, s43_a, s43_t, s43_n, s4_fR5, s45_a, s45_t, s45_n, s4_fR7, s47_a, s47_t, s47_n, s4_fR8, s48_a, s48_t, s48_n, s4_fR10, s410_a, s410_t, s410_n, s4_fR11, s411_a, s411_t, s411_n, s4_fR12, s412_a, s412_t, s412_n, s4_fR13, s413_a, s413_t, s413_n, be_k, be_fI, be_fL, be_pI, be_pL, be_z0, be_z1, be_fR0, be_fR1, be1_a, be1_t, be1_n, be_fR2, be2_a, be2_t, be2_n, be_fR3, be3_a, be3_t, be3_n, be_fR4, be4_a, be4_t, be4_n, be_fR5, be5_a, be5_t, be5_n, be_fR6, be6_a, be6_t, be6_n, be_fR7, be7_a, be7_t, be7_n, c_hasPlace hO hs, hp, decide_true, bi_z, c_whyNotTread hO ha hb, hc]
        · unfold fX11_tread
          simp (disch := first | assumption | omega | rfl) only [i_rem, i_pred, i_addn1, i_lit, i_n1, i_add, i_mul, i_sub, i_le, i_lt, i_eq, i_ne1, n1_ne, n1_lt, n1_le, i_lt1, i_le1, bd_s, nar_bi, nar_0, nar_1, if_pos, if_neg, ↓reduceIte, reduceCtorEq, eq_self, if_true, if_false, not_true_eq_false, not_false_eq_true, mo_k, mo_fI, mo_fL, mo_pI, mo_pL, mo_z0, mo_z1, mo_fR1, mo1_a, mo1_t, mo1_n, mo_fR14, mo14_a, mo14_t, mo14_n, mo_fR15, mo15_a, mo15_t, mo15_n, mo_fR16, mo16_a, mo16_t, mo16_n, mo_fR17, mo17_a, mo17_t, mo17_n, mo_fR18, mo18_a, mo18_t, mo18_n, mo_fR19, mo19_a, mo19_t, mo19_n, mo_fR20, mo20_a, mo20_t, mo20_n, mo_fR21, mo21_a, mo21_t, mo21_n, mo_fR22, mo22_a, mo22_t, mo22_n, mo_fR25, mo25_a, mo25_t, mo25_n, mo_fR26, mo26_a, mo26_t, mo26_n, mo_fR28, mo28_a, mo28_t, mo28_n, mo_fR29, mo29_a, mo29_t, mo29_n, mo_fR30, mo30_a, mo30_t, mo30_n, mo_fR33, mo33_a, mo33_t, mo33_n, mo_fR36, mo36_a, mo36_t, mo36_n, mo_fR37, mo37_a, mo37_t, mo37_n, mo_fR40, mo40_a, mo40_t, mo40_n, m_isBand hO hm, m_isPlace hO hm, hbb, hp, decide_true, bi_z, m_whyTread hO hm, hc]
      · obtain ⟨J, e1, g1, g2⟩ := c_keepCopy (N := N) (L := L) (r := r) hC.2.1 hb
        have hb' : BR 26 B J := BR_of (fun q h1 h2 => g2 q (by omega)) hb
        obtain ⟨J2, e2, g3, g4⟩ := c_removeSign (N := N) (L := L) (r := r) hO ha hb' hbb hp hc
        have fr : ∀ q, (q < 26 ∨ 108 ≤ q) → q ≠ 132 → J2 q = I q := fun q hq _ => (g4 q (by omega)).trans (g2 q (by omega))
        have hC2 := WC_act hC g3 (PR_of (fun q h1 h2 => g4 q (by omega)) g1) fr
        have hM2 := WM_c (J := J2) (K := L) (fun q hq => fr q (by omega) (by omega)) (fun _ _ _ => rfl) hM
        have hM3 := WM_t (v := i32 0) hM2
        have hm2 := WM_R hM3
        obtain ⟨J3, e3, g5, g6, g7⟩ := m_snap (N := N) (L := L) (r := r) hN hM3.2.1 hm2.2
        have hm3 : MR H B J3 := by
          unfold MR; rw [g6 188 (by omega) (by omega)]; exact hm2
        obtain ⟨J4, e4, g8, g9, g10⟩ := m_doTread (N := N) (L := L) (r := r) (b := b) (p := p) hO hm3 (by omega)
        refine ⟨i32 0, J2, L, r, J4, L, ?_, ?_, (H, W, tr B (12 * b + p), D), G, pushN s, pushP s P B, n, T, f, E, ?_, ?_, ?_⟩
        · unfold fX10_tread
          simp (disch := first | assumption | omega | rfl) only [i_rem, i_pred, i_addn1, i_lit, i_n1, i_add, i_mul, i_sub, i_le, i_lt, i_eq, i_ne1, n1_ne, n1_lt, n1_le, i_lt1, i_le1, bd_s, nar_bi, nar_0, nar_1, if_pos, if_neg, ↓reduceIte, reduceCtorEq, eq_self, if_true, if_false, not_true_eq_false, not_false_eq_true, x0_k, x0_fI, x0_fL, x0_pI, x0_pL, x0_z0, x0_z1, x0_fR0, x0_fR1, x0_fR2, x0_fR3, x0_fR4, x0_fR5, x0_fR6, x0_fR7, x0_fR8, x0_fR9, x0_fR10, x0_fR11, x0_fR12, x0_fR13, x013_a, x013_t, x013_n, x0_fR15, x0_fR16, x0_fR17, x0_fR18, x018_a, x018_t, x018_n, s4_k, s4_fI, s4_fL, s4_pI, s4_pL, s4_z0, s4_z1, s4_fR1, s41_a, s41_t, s41_n, s4_fR2, s42_a, s42_t, s42_n, s4_fR3, s43_a, s43_t, s43_n, s4_fR5, s45_a, s45_t, s45_n, s4_fR7, s47_a, s47_t, s47_n, s4_fR8, s48_a, s48_t, s48_n, s4_fR10, s410_a, s410_t, s410_n, s4_fR11, s411_a, s411_t, s411_n, s4_fR12, s412_a, s412_t, s412_n, s4_fR13, s413_a, s413_t, s413_n, be_k, be_fI, be_fL, be_pI, be_pL, be_z0, be_z1, be_fR0, be_fR1, be1_a, be1_t, be1_n, be_fR2, be2_a, be2_t, be2_n, be_fR3, be3_a, be3_t, be3_n, be_fR4, be4_a, be4_t, be4_n, be_fR5, be5_a, be5_t, be5_n, be_fR6, be6_a, be6_t, be6_n, be_fR7, be7_a, be7_t, be7_n, pa_k, pa_fI, pa_fL, pa_pI, pa_pL, pa_z0, pa_z1, pa_fR0, c_hasPlace hO hs, hp, decide_true, bi_z, c_whyNotTread hO ha hb, hc, e1, e2]
        · unfold fX11_tread
          simp (disch := first | assumption | omega | rfl) only [i_rem, i_pred, i_addn1, i_lit, i_n1, i_add, i_mul, i_sub, i_le, i_lt, i_eq, i_ne1, n1_ne, n1_lt, n1_le, i_lt1, i_le1, bd_s, nar_bi, nar_0, nar_1, if_pos, if_neg, ↓reduceIte, reduceCtorEq, eq_self, if_true, if_false, not_true_eq_false, not_false_eq_true, mo_k, mo_fI, mo_fL, mo_pI, mo_pL, mo_z0, mo_z1, mo_fR1, mo1_a, mo1_t, mo1_n, mo_fR14, mo14_a, mo14_t, mo14_n, mo_fR15, mo15_a, mo15_t, mo15_n, mo_fR16, mo16_a, mo16_t, mo16_n, mo_fR17, mo17_a, mo17_t, mo17_n, mo_fR18, mo18_a, mo18_t, mo18_n, mo_fR19, mo19_a, mo19_t, mo19_n, mo_fR20, mo20_a, mo20_t, mo20_n, mo_fR21, mo21_a, mo21_t, mo21_n, mo_fR22, mo22_a, mo22_t, mo22_n, mo_fR25, mo25_a, mo25_t, mo25_n, mo_fR26, mo26_a, mo26_t, mo26_n, mo_fR28, mo28_a, mo28_t, mo28_n, mo_fR29, mo29_a, mo29_t, mo29_n, mo_fR30, mo30_a, mo30_t, mo30_n, mo_fR33, mo33_a, mo33_t, mo33_n, mo_fR36, mo36_a, mo36_t, mo36_n, mo_fR37, mo37_a, mo37_t, mo37_n, mo_fR40, mo40_a, mo40_t, mo40_n, m_isBand hO hm2, m_isPlace hO hm2, hbb, hp, decide_true, bi_z, m_whyTread hO hm2, hc, e3, e4]
        · refine WC_of (fun q hq => ?_) (fun _ _ => rfl) hC2
          rw [g9 q (by omega), g6 q (by omega) (by omega), up_row (by omega)]
        · refine WM_act hM2 g8 ?_ (fun q h1 h2 h3 h4 => ?_) (fun k' h1 h2 h3 => ?_) (fun k' h1 => ?_)
          · unfold MP at *; rw [g9 186 (by omega), g9 191 (by omega)]; exact g5
          · rw [g9 q (by omega), g6 q (by omega) (by omega), up_row (by omega)]
          · rw [g9 186 (by omega), g7 k' (by omega), up_ofk (by omega)]
          · rw [g10 k' (by omega), g6 188 (by omega) (by omega), up_row (by omega)]
        · refine ⟨⟨hO, hI.1.2.1, ?_, bQ_tr hO hB.2 (by omega)⟩, hI.2.1, bOk_push hI.2.2.1 (PR_8 hC.2.1) hB, hI.2.2.2⟩
          obtain ⟨h0, hh, hz⟩ := hB.1
          exact ⟨h0, hh, by simp (disch := omega) only [up_at, up_off, upL_at, upL_off, if_pos, if_neg, if_true, true_or, or_true, true_and, and_true, tr]; exact hz⟩
    · refine Step_q (x := n1) (v := i32 0) ⟨hC, hM, hI⟩ ?_ ?_
      · unfold fX10_tread
        simp (disch := first | assumption | omega | rfl) only [i_rem, i_pred, i_addn1, i_lit, i_n1, i_add, i_mul, i_sub, i_le, i_lt, i_eq, i_ne1, n1_ne, n1_lt, n1_le, i_lt1, i_le1, bd_s, nar_bi, nar_0, nar_1, if_pos, if_neg, ↓reduceIte, reduceCtorEq, eq_self, if_true, if_false, not_true_eq_false, not_false_eq_true, x0_k, x0_fI, x0_fL, x0_pI, x0_pL, x0_z0, x0_z1, x0_fR0, x0_fR1, x0_fR2, x0_fR3, x0_fR4, x0_fR5, x0_fR6, x0_fR7, x0_fR8, x0_fR9, x0_fR10, x0_fR11, x0_fR12, x0_fR13, x013_a, x013_t, x013_n, x0_fR15, x0_fR16, x0_fR17, x0_fR18, x018_a, x018_t, x018_n, s4_k, s4_fI, s4_fL, s4_pI, s4_pL, s4_z0, s4_z1, s4_fR1, s41_a, s41_t, s41_n, s4_fR2, s42_a, s42_t, s42_n, s4_fR3, s43_a, s43_t, s43_n, s4_fR5, s45_a, s45_t, s45_n, s4_fR7, s47_a, s47_t, s47_n, s4_fR8, s48_a, s48_t, s48_n, s4_fR10, s410_a, s410_t, s410_n, s4_fR11, s411_a, s411_t, s411_n, s4_fR12, s412_a, s412_t, s412_n, s4_fR13, s413_a, s413_t, s413_n, be_k, be_fI, be_fL, be_pI, be_pL, be_z0, be_z1, be_fR0, be_fR1, be1_a, be1_t, be1_n, be_fR2, be2_a, be2_t, be2_n, be_fR3, be3_a, be3_t, be3_n, be_fR4, be4_a, be4_t, be4_n, be_fR5, be5_a, be5_t, be5_n, be_fR6, be6_a, be6_t, be6_n, be_fR7, be7_a, be7_t, be7_n, c_hasPlace_n2 hO hs hbb hx]
      · unfold fX11_tread
        simp (disch := first | assumption | omega | rfl) only [i_rem, i_pred, i_addn1, i_lit, i_n1, i_add, i_mul, i_sub, i_le, i_lt, i_eq, i_ne1, n1_ne, n1_lt, n1_le, i_lt1, i_le1, bd_s, nar_bi, nar_0, nar_1, if_pos, if_neg, ↓reduceIte, reduceCtorEq, eq_self, if_true, if_false, not_true_eq_false, not_false_eq_true, mo_k, mo_fI, mo_fL, mo_pI, mo_pL, mo_z0, mo_z1, mo_fR1, mo1_a, mo1_t, mo1_n, mo_fR14, mo14_a, mo14_t, mo14_n, mo_fR15, mo15_a, mo15_t, mo15_n, mo_fR16, mo16_a, mo16_t, mo16_n, mo_fR17, mo17_a, mo17_t, mo17_n, mo_fR18, mo18_a, mo18_t, mo18_n, mo_fR19, mo19_a, mo19_t, mo19_n, mo_fR20, mo20_a, mo20_t, mo20_n, mo_fR21, mo21_a, mo21_t, mo21_n, mo_fR22, mo22_a, mo22_t, mo22_n, mo_fR25, mo25_a, mo25_t, mo25_n, mo_fR26, mo26_a, mo26_t, mo26_n, mo_fR28, mo28_a, mo28_t, mo28_n, mo_fR29, mo29_a, mo29_t, mo29_n, mo_fR30, mo30_a, mo30_t, mo30_n, mo_fR33, mo33_a, mo33_t, mo33_n, mo_fR36, mo36_a, mo36_t, mo36_n, mo_fR37, mo37_a, mo37_t, mo37_n, mo_fR40, mo40_a, mo40_t, mo40_n, m_isBand hO hm, m_isPlace_n hO hm hbb hx, hbb, decide_true, bi_z]
  · refine Step_q (x := n1) (v := i32 0) ⟨hC, hM, hI⟩ ?_ ?_
    · unfold fX10_tread
      simp (disch := first | assumption | omega | rfl) only [i_rem, i_pred, i_addn1, i_lit, i_n1, i_add, i_mul, i_sub, i_le, i_lt, i_eq, i_ne1, n1_ne, n1_lt, n1_le, i_lt1, i_le1, bd_s, nar_bi, nar_0, nar_1, if_pos, if_neg, ↓reduceIte, reduceCtorEq, eq_self, if_true, if_false, not_true_eq_false, not_false_eq_true, x0_k, x0_fI, x0_fL, x0_pI, x0_pL, x0_z0, x0_z1, x0_fR0, x0_fR1, x0_fR2, x0_fR3, x0_fR4, x0_fR5, x0_fR6, x0_fR7, x0_fR8, x0_fR9, x0_fR10, x0_fR11, x0_fR12, x0_fR13, x013_a, x013_t, x013_n, x0_fR15, x0_fR16, x0_fR17, x0_fR18, x018_a, x018_t, x018_n, s4_k, s4_fI, s4_fL, s4_pI, s4_pL, s4_z0, s4_z1, s4_fR1, s41_a, s41_t, s41_n, s4_fR2, s42_a, s42_t, s42_n, s4_fR3, s43_a, s43_t, s43_n, s4_fR5, s45_a, s45_t, s45_n, s4_fR7, s47_a, s47_t, s47_n, s4_fR8, s48_a, s48_t, s48_n, s4_fR10, s410_a, s410_t, s410_n, s4_fR11, s411_a, s411_t, s411_n, s4_fR12, s412_a, s412_t, s412_n, s4_fR13, s413_a, s413_t, s413_n, be_k, be_fI, be_fL, be_pI, be_pL, be_z0, be_z1, be_fR0, be_fR1, be1_a, be1_t, be1_n, be_fR2, be2_a, be2_t, be2_n, be_fR3, be3_a, be3_t, be3_n, be_fR4, be4_a, be4_t, be4_n, be_fR5, be5_a, be5_t, be5_n, be_fR6, be6_a, be6_t, be6_n, be_fR7, be7_a, be7_t, be7_n, c_hasPlace_n1 hs hv]
    · unfold fX11_tread
      simp (disch := first | assumption | omega | rfl) only [i_rem, i_pred, i_addn1, i_lit, i_n1, i_add, i_mul, i_sub, i_le, i_lt, i_eq, i_ne1, n1_ne, n1_lt, n1_le, i_lt1, i_le1, bd_s, nar_bi, nar_0, nar_1, if_pos, if_neg, ↓reduceIte, reduceCtorEq, eq_self, if_true, if_false, not_true_eq_false, not_false_eq_true, mo_k, mo_fI, mo_fL, mo_pI, mo_pL, mo_z0, mo_z1, mo_fR1, mo1_a, mo1_t, mo1_n, mo_fR14, mo14_a, mo14_t, mo14_n, mo_fR15, mo15_a, mo15_t, mo15_n, mo_fR16, mo16_a, mo16_t, mo16_n, mo_fR17, mo17_a, mo17_t, mo17_n, mo_fR18, mo18_a, mo18_t, mo18_n, mo_fR19, mo19_a, mo19_t, mo19_n, mo_fR20, mo20_a, mo20_t, mo20_n, mo_fR21, mo21_a, mo21_t, mo21_n, mo_fR22, mo22_a, mo22_t, mo22_n, mo_fR25, mo25_a, mo25_t, mo25_n, mo_fR26, mo26_a, mo26_t, mo26_n, mo_fR28, mo28_a, mo28_t, mo28_n, mo_fR29, mo29_a, mo29_t, mo29_n, mo_fR30, mo30_a, mo30_t, mo30_n, mo_fR33, mo33_a, mo33_t, mo33_n, mo_fR36, mo36_a, mo36_t, mo36_n, mo_fR37, mo37_a, mo37_t, mo37_n, mo_fR40, mo40_a, mo40_t, mo40_n, m_isBand_n hO hm hv]
theorem in_1 {v : Int32} {m : Nat} (hm : m < 2147483647) (h1 : 1 ≤ m) : (∃ k, 1 ≤ k ∧ k ≤ m ∧ v = i32 k ∧ (!decide (v < i32 1) && !decide (i32 m < v)) = true) ∨ ((v < i32 1 ∨ (¬ v < i32 1 ∧ ¬ v ≤ i32 m)) ∧ (!decide (v < i32 1) && !decide (i32 m < v)) = false) := by
  rcases i_in v (n := m + 1) (by omega) with ⟨k, hk, rfl⟩ | hv
  · by_cases h0 : k = 0
    · subst h0
      have : i32 0 < i32 1 := by decide
      exact Or.inr ⟨Or.inl this, by simp [this]⟩
    · left
      refine ⟨k, by omega, by omega, rfl, ?_⟩
      have h3 : ¬ i32 k < i32 1 := by rw [i_lt (by omega) (by omega)]; omega
      have h4 : ¬ i32 m < i32 k := by rw [i_lt (by omega) (by omega)]; omega
      simp [h3, h4]
  · right
    rcases hv with hv | ⟨hv0, hv⟩
    · have : v < i32 1 := by
        rw [Int32.lt_iff_toInt_lt, i_toInt (by omega)]
        have hv' : v < i32 0 := hv
        rw [Int32.lt_iff_toInt_lt, i_toInt (by omega)] at hv'
        omega
      exact ⟨Or.inl this, by simp [this]⟩
    · rw [Int32.le_iff_toInt_le, i_toInt (by omega)] at hv
      have h3 : ¬ v < i32 1 := by rw [Int32.lt_iff_toInt_lt, i_toInt (by omega)]; omega
      have h4 : ¬ v ≤ i32 m := by rw [Int32.le_iff_toInt_le, i_toInt (by omega)]; omega
      have h5 : i32 m < v := by rw [Int32.lt_iff_toInt_lt, i_toInt (by omega)]; omega
      exact ⟨Or.inr ⟨h3, h4⟩, by simp [h5]⟩
theorem q_hours (hN : 1200 < N) (h : Ok I L) {v : Int32} : Step2 (fX10_hours N 0 v) (fX11_hours N 186 v) I L r := by
  obtain ⟨⟨H, W, B, D⟩, G, s, P, n, T, f, E, hC, hM, hI⟩ := h
  have hO : hOk H := hI.1.1
  have hB : bOk H B := hI.1.2.2
  have hs : RS 4 H I := hC.1.1
  have hb : BR 26 B I := hC.1.2.2.1
  have hm : MR H B (up I 186 0 (i32 0)) := WM_R (WM_t hM)
  have ha : isBe 26 = true := rfl
  have o0 := hO.1; have o1 := hO.2.1; have o2 := hO.2.2.1; have o3 := hO.2.2.2.1; have o4 := hO.2.2.2.2.1; have o5 := hO.2.2.2.2.2.1
  obtain ⟨h0, hh, hz⟩ := hB.1
  rcases in_1 (v := v) (m := 60) (by omega) (by omega) with ⟨k, hk1, hk, rfl, e9⟩ | ⟨hv, e9⟩
  · have emin : (if 400 - h0 < k then 400 - h0 else k) = min k (400 - h0) := by split <;> omega
    have emin' : (if i32 (400 - h0) < i32 k then i32 (400 - h0) else i32 k) = i32 (min k (400 - h0)) := by
      rw [i_lt (by omega) (by omega), ← emin]; split <;> rfl
    by_cases h4 : h0 = 400
    · refine Step_q (x := i32 0) (v := i32 0) ⟨hC, hM, hI⟩ ?_ ?_
      · have e0 : min k (400 - h0) = 0 := by omega
        unfold fX10_hours
        simp (disch := first | assumption | omega | rfl) only [be_k, be_fI, be_fL, be_pI, be_pL, be_z0, be_z1, be_fR0, be_fR1, be1_a, be1_t, be1_n, be_fR2, be2_a, be2_t, be2_n, be_fR3, be3_a, be3_t, be3_n, be_fR4, be4_a, be4_t, be4_n, be_fR5, be5_a, be5_t, be5_n, be_fR6, be6_a, be6_t, be6_n, be_fR7, be7_a, be7_t, be7_n, x0_k, x0_fI, x0_fL, x0_pI, x0_pL, x0_z0, x0_z1, x0_fR0, x0_fR1, x0_fR2, x0_fR3, x0_fR4, x0_fR5, x0_fR6, x0_fR7, x0_fR8, x0_fR9, x0_fR10, x0_fR11, x0_fR12, x0_fR13, x013_a, x013_t, x013_n, x0_fR15, x0_fR16, x0_fR17, x0_fR18, x018_a, x018_t, x018_n, i_lit, i_n1, bd_s, eq_self, if_true, c_hoursLeft ha hb hz hh, emin', e0]
        simp (disch := first | assumption | omega | rfl) only [i_rem, i_pred, i_addn1, i_lit, i_n1, i_add, i_mul, i_sub, i_le, i_lt, i_eq, i_ne1, n1_ne, n1_lt, n1_le, i_lt1, i_le1, bd_s, nar_bi, nar_0, nar_1, if_pos, if_neg, ↓reduceIte, reduceCtorEq, eq_self, if_true, if_false, not_true_eq_false, not_false_eq_true]
      · unfold fX11_hours
        simp (disch := first | assumption | omega | rfl) only [i_rem, i_pred, i_addn1, i_lit, i_n1, i_add, i_mul, i_sub, i_le, i_lt, i_eq, i_ne1, n1_ne, n1_lt, n1_le, i_lt1, i_le1, bd_s, nar_bi, nar_0, nar_1, if_pos, if_neg, ↓reduceIte, reduceCtorEq, eq_self, if_true, if_false, not_true_eq_false, not_false_eq_true, mo_k, mo_fI, mo_fL, mo_pI, mo_pL, mo_z0, mo_z1, mo_fR1, mo1_a, mo1_t, mo1_n, mo_fR14, mo14_a, mo14_t, mo14_n, mo_fR15, mo15_a, mo15_t, mo15_n, mo_fR16, mo16_a, mo16_t, mo16_n, mo_fR17, mo17_a, mo17_t, mo17_n, mo_fR18, mo18_a, mo18_t, mo18_n, mo_fR19, mo19_a, mo19_t, mo19_n, mo_fR20, mo20_a, mo20_t, mo20_n, mo_fR21, mo21_a, mo21_t, mo21_n, mo_fR22, mo22_a, mo22_t, mo22_n, mo_fR25, mo25_a, mo25_t, mo25_n, mo_fR26, mo26_a, mo26_t, mo26_n, mo_fR28, mo28_a, mo28_t, mo28_n, mo_fR29, mo29_a, mo29_t, mo29_n, mo_fR30, mo30_a, mo30_t, mo30_n, mo_fR33, mo33_a, mo33_t, mo33_n, mo_fR36, mo36_a, mo36_t, mo36_n, mo_fR37, mo37_a, mo37_t, mo37_n, mo_fR40, mo40_a, mo40_t, mo40_n, m_isInT e9, m_hr hm, hz]
    · obtain ⟨J, e1, g1, g2⟩ := c_keepCopy (N := N) (L := L) (r := r) hC.2.1 hb
      have hb' : BR 26 B J := BR_of (fun q h1 h2 => g2 q (by omega)) hb
      have hs' : RS 4 H J := RS_of (fun q h1 h2 => g2 q (by omega)) hs
      obtain ⟨J2, e2, g3, g4⟩ := c_passHours (N := N) (L := L) (r := r) hN hO hs' ha hb' (n := min k (400 - h0)) hz (by omega)
      have fr : ∀ q, (q < 26 ∨ 108 ≤ q) → q ≠ 132 → J2 q = I q := fun q hq _ => (g4 q (by omega)).trans (g2 q (by omega))
      have hC2 := WC_act hC g3 (PR_of (fun q h1 h2 => g4 q (by omega)) g1) fr
      have hM2 := WM_c (J := J2) (K := L) (fun q hq => fr q (by omega) (by omega)) (fun _ _ _ => rfl) hM
      have hM3 := WM_t (v := i32 0) hM2
      have hm2 := WM_R hM3
      obtain ⟨J3, e3, g5, g6, g7⟩ := m_snap (N := N) (L := L) (r := r) hN hM3.2.1 hm2.2
      have hm3 : MR H B J3 := by
        unfold MR; rw [g6 188 (by omega) (by omega)]; exact hm2
      obtain ⟨J4, e4, g8, g9, g10⟩ := m_passHours (N := N) (L := L) (r := r) (n := k) hN hO hm3 hz hh (by omega)
      refine ⟨i32 (min k (400 - h0)), J2, L, r, J4, L, ?_, ?_, (H, W, hrs H B h0 (min k (400 - h0)), D), G, pushN s, pushP s P B, n, T, f, E, ?_, ?_, ?_⟩
      · have c1 : ¬ i32 k < i32 1 := by rw [i_lt (by omega) (by omega)]; omega
        have c2 : i32 k ≤ i32 60 := by rw [i_le (by omega) (by omega)]; omega
        have c3 : ¬ i32 (min k (400 - h0)) ≤ i32 0 := by rw [i_le (by omega) (by omega)]; omega
        unfold fX10_hours
        simp (disch := first | assumption | omega | rfl) only [be_k, be_fI, be_fL, be_pI, be_pL, be_z0, be_z1, be_fR0, be_fR1, be1_a, be1_t, be1_n, be_fR2, be2_a, be2_t, be2_n, be_fR3, be3_a, be3_t, be3_n, be_fR4, be4_a, be4_t, be4_n, be_fR5, be5_a, be5_t, be5_n, be_fR6, be6_a, be6_t, be6_n, be_fR7, be7_a, be7_t, be7_n, x0_k, x0_fI, x0_fL, x0_pI, x0_pL, x0_z0, x0_z1, x0_fR0, x0_fR1, x0_fR2, x0_fR3, x0_fR4, x0_fR5, x0_fR6, x0_fR7, x0_fR8, x0_fR9, x0_fR10, x0_fR11, x0_fR12, x0_fR13, x013_a, x013_t, x013_n, x0_fR15, x0_fR16, x0_fR17, x0_fR18, x018_a, x018_t, x018_n, pa_k, pa_fI, pa_fL, pa_pI, pa_pL, pa_z0, pa_z1, pa_fR0, i_lit, i_n1, bd_s, eq_self, if_true, c_hoursLeft ha hb hz hh, emin', c1, c2, c3, if_pos, if_neg, e1, e2]
      · unfold fX11_hours
        simp (disch := first | assumption | omega | rfl) only [i_rem, i_pred, i_addn1, i_lit, i_n1, i_add, i_mul, i_sub, i_le, i_lt, i_eq, i_ne1, n1_ne, n1_lt, n1_le, i_lt1, i_le1, bd_s, nar_bi, nar_0, nar_1, if_pos, if_neg, ↓reduceIte, reduceCtorEq, eq_self, if_true, if_false, not_true_eq_false, not_false_eq_true, mo_k, mo_fI, mo_fL, mo_pI, mo_pL, mo_z0, mo_z1, mo_fR1, mo1_a, mo1_t, mo1_n, mo_fR14, mo14_a, mo14_t, mo14_n, mo_fR15, mo15_a, mo15_t, mo15_n, mo_fR16, mo16_a, mo16_t, mo16_n, mo_fR17, mo17_a, mo17_t, mo17_n, mo_fR18, mo18_a, mo18_t, mo18_n, mo_fR19, mo19_a, mo19_t, mo19_n, mo_fR20, mo20_a, mo20_t, mo20_n, mo_fR21, mo21_a, mo21_t, mo21_n, mo_fR22, mo22_a, mo22_t, mo22_n, mo_fR25, mo25_a, mo25_t, mo25_n, mo_fR26, mo26_a, mo26_t, mo26_n, mo_fR28, mo28_a, mo28_t, mo28_n, mo_fR29, mo29_a, mo29_t, mo29_n, mo_fR30, mo30_a, mo30_t, mo30_n, mo_fR33, mo33_a, mo33_t, mo33_n, mo_fR36, mo36_a, mo36_t, mo36_n, mo_fR37, mo37_a, mo37_t, mo37_n, mo_fR40, mo40_a, mo40_t, mo40_n, m_isInT e9, m_hr hm2, hz, e3, e4]
      · refine WC_of (fun q hq => ?_) (fun _ _ => rfl) hC2
        rw [g9 q (by omega), g6 q (by omega) (by omega), up_row (by omega)]
      · refine WM_act hM2 g8 ?_ (fun q h1 h2 h3 h4 => ?_) (fun k' h1 h2 h3 => ?_) (fun k' h1 => ?_)
        · unfold MP at *; rw [g9 186 (by omega), g9 191 (by omega)]; exact g5
        · rw [g9 q (by omega), g6 q (by omega) (by omega), up_row (by omega)]
        · rw [g9 186 (by omega), g7 k' (by omega), up_ofk (by omega)]
        · rw [g10 k' (by omega), g6 188 (by omega) (by omega), up_row (by omega)]
      · exact ⟨⟨hO, hI.1.2.1, bOk_hrs hO hB hz (by omega)⟩, hI.2.1, bOk_push hI.2.2.1 (PR_8 hC.2.1) hB, hI.2.2.2⟩
  · refine Step_q (x := n1) (v := i32 0) ⟨hC, hM, hI⟩ ?_ ?_
    · unfold fX10_hours
      simp only [i_lit, i_n1]
      rcases hv with hv | ⟨hv, hv2⟩
      · rw [if_pos hv]
      · rw [if_neg hv, if_neg hv2]
    · unfold fX11_hours
      simp (disch := first | assumption | omega | rfl) only [i_rem, i_pred, i_addn1, i_lit, i_n1, i_add, i_mul, i_sub, i_le, i_lt, i_eq, i_ne1, n1_ne, n1_lt, n1_le, i_lt1, i_le1, bd_s, nar_bi, nar_0, nar_1, if_pos, if_neg, ↓reduceIte, reduceCtorEq, eq_self, if_true, if_false, not_true_eq_false, not_false_eq_true, mo_k, mo_fI, mo_fL, mo_pI, mo_pL, mo_z0, mo_z1, mo_fR1, mo1_a, mo1_t, mo1_n, mo_fR14, mo14_a, mo14_t, mo14_n, mo_fR15, mo15_a, mo15_t, mo15_n, mo_fR16, mo16_a, mo16_t, mo16_n, mo_fR17, mo17_a, mo17_t, mo17_n, mo_fR18, mo18_a, mo18_t, mo18_n, mo_fR19, mo19_a, mo19_t, mo19_n, mo_fR20, mo20_a, mo20_t, mo20_n, mo_fR21, mo21_a, mo21_t, mo21_n, mo_fR22, mo22_a, mo22_t, mo22_n, mo_fR25, mo25_a, mo25_t, mo25_n, mo_fR26, mo26_a, mo26_t, mo26_n, mo_fR28, mo28_a, mo28_t, mo28_n, mo_fR29, mo29_a, mo29_t, mo29_n, mo_fR30, mo30_a, mo30_t, mo30_n, mo_fR33, mo33_a, mo33_t, mo33_n, mo_fR36, mo36_a, mo36_t, mo36_n, mo_fR37, mo37_a, mo37_t, mo37_n, mo_fR40, mo40_a, mo40_t, mo40_n, m_isInF e9]
theorem q_undo (hN : 1200 < N) (h : Ok I L) : Step2 (fX10_undo N 0) (fX11_undo N 186) I L r := by
  obtain ⟨⟨H, W, B, D⟩, G, s, P, n, T, f, E, hC, hM, hI⟩ := h
  have hO : hOk H := hI.1.1
  have hB : bOk H B := hI.1.2.2
  have hs : RS 4 H I := hC.1.1
  have hb : BR 26 B I := hC.1.2.2.1
  have hm : MR H B (up I 186 0 (i32 0)) := WM_R (WM_t hM)
  have ha : isBe 26 = true := rfl
  have o0 := hO.1; have o1 := hO.2.1; have o2 := hO.2.2.1; have o3 := hO.2.2.2.1; have o4 := hO.2.2.2.2.1; have o5 := hO.2.2.2.2.2.1
  cases s with
  | zero =>
    refine Step_q (x := n1) (v := i32 0) ⟨hC, hM, hI⟩ ?_ ?_
    · unfold fX10_undo
      simp (disch := first | assumption | omega | rfl) only [i_rem, i_pred, i_addn1, i_lit, i_n1, i_add, i_mul, i_sub, i_le, i_lt, i_eq, i_ne1, n1_ne, n1_lt, n1_le, i_lt1, i_le1, bd_s, nar_bi, nar_0, nar_1, if_pos, if_neg, ↓reduceIte, reduceCtorEq, eq_self, if_true, if_false, not_true_eq_false, not_false_eq_true, x0_k, x0_fI, x0_fL, x0_pI, x0_pL, x0_z0, x0_z1, x0_fR0, x0_fR1, x0_fR2, x0_fR3, x0_fR4, x0_fR5, x0_fR6, x0_fR7, x0_fR8, x0_fR9, x0_fR10, x0_fR11, x0_fR12, x0_fR13, x013_a, x013_t, x013_n, x0_fR15, x0_fR16, x0_fR17, x0_fR18, x018_a, x018_t, x018_n, pa_k, pa_fI, pa_fL, pa_pI, pa_pL, pa_z0, pa_z1, pa_fR0, c_bringBack0 hC.2.1]
    · have e := hM.2.1.2.1
      unfold fX11_undo
      simp (disch := first | assumption | omega | rfl) only [i_rem, i_pred, i_addn1, i_lit, i_n1, i_add, i_mul, i_sub, i_le, i_lt, i_eq, i_ne1, n1_ne, n1_lt, n1_le, i_lt1, i_le1, bd_s, nar_bi, nar_0, nar_1, if_pos, if_neg, ↓reduceIte, reduceCtorEq, eq_self, if_true, if_false, not_true_eq_false, not_false_eq_true, mo_k, mo_fI, mo_fL, mo_pI, mo_pL, mo_z0, mo_z1, mo_fR1, mo1_a, mo1_t, mo1_n, mo_fR14, mo14_a, mo14_t, mo14_n, mo_fR15, mo15_a, mo15_t, mo15_n, mo_fR16, mo16_a, mo16_t, mo16_n, mo_fR17, mo17_a, mo17_t, mo17_n, mo_fR18, mo18_a, mo18_t, mo18_n, mo_fR19, mo19_a, mo19_t, mo19_n, mo_fR20, mo20_a, mo20_t, mo20_n, mo_fR21, mo21_a, mo21_t, mo21_n, mo_fR22, mo22_a, mo22_t, mo22_n, mo_fR25, mo25_a, mo25_t, mo25_n, mo_fR26, mo26_a, mo26_t, mo26_n, mo_fR28, mo28_a, mo28_t, mo28_n, mo_fR29, mo29_a, mo29_t, mo29_n, mo_fR30, mo30_a, mo30_t, mo30_n, mo_fR33, mo33_a, mo33_t, mo33_n, mo_fR36, mo36_a, mo36_t, mo36_n, mo_fR37, mo37_a, mo37_t, mo37_n, mo_fR40, mo40_a, mo40_t, mo40_n, up_ofk, e]
  | succ s =>
    have h8 := PR_8 hC.2.1
    obtain ⟨J, e1, g1, g2, g3, g4⟩ := c_bringBack (N := N) (L := L) (r := r) hC.2.1
    have fr : ∀ q, (q < 26 ∨ 108 ≤ q) → q ≠ 132 → J q = I q := fun q hq _ => g3 q (by omega)
    have hC2 := WC_act hC g2 g1 fr
    have hM2 := WM_c (J := J) (K := L) (fun q hq => fr q (by omega) (by omega)) (fun _ _ _ => rfl) hM
    have hM3 := WM_t (v := i32 0) hM2
    have e2 := hM3.2.1.2.1
    have e3 := m_undoL (N := N) (I := up (up J 186 0 (i32 0)) 186 24 (i32 s)) (L := L) (r := r) (s := s) hN (by simp (disch := omega) only [up_at, up_off, upL_at, upL_off, if_pos, if_neg, if_true, true_or, or_true, true_and, and_true]) (by omega)
    refine ⟨i32 s, J, L, r, cpy (up (up J 186 0 (i32 0)) 186 24 (i32 s)) 191 (164 * s) 188 35 164, L, ?_, ?_, (H, W, P s, D), G, s, P, n, T, f, E, ?_, ?_, ?_⟩
    · unfold fX10_undo
      simp (disch := first | assumption | omega | rfl) only [i_rem, i_pred, i_addn1, i_lit, i_n1, i_add, i_mul, i_sub, i_le, i_lt, i_eq, i_ne1, n1_ne, n1_lt, n1_le, i_lt1, i_le1, bd_s, nar_bi, nar_0, nar_1, if_pos, if_neg, ↓reduceIte, reduceCtorEq, eq_self, if_true, if_false, not_true_eq_false, not_false_eq_true, x0_k, x0_fI, x0_fL, x0_pI, x0_pL, x0_z0, x0_z1, x0_fR0, x0_fR1, x0_fR2, x0_fR3, x0_fR4, x0_fR5, x0_fR6, x0_fR7, x0_fR8, x0_fR9, x0_fR10, x0_fR11, x0_fR12, x0_fR13, x013_a, x013_t, x013_n, x0_fR15, x0_fR16, x0_fR17, x0_fR18, x018_a, x018_t, x018_n, pa_k, pa_fI, pa_fL, pa_pI, pa_pL, pa_z0, pa_z1, pa_fR0, e1, g4]
    · unfold fX11_undo
      simp (disch := first | assumption | omega | rfl) only [i_rem, i_pred, i_addn1, i_lit, i_n1, i_add, i_mul, i_sub, i_le, i_lt, i_eq, i_ne1, n1_ne, n1_lt, n1_le, i_lt1, i_le1, bd_s, nar_bi, nar_0, nar_1, if_pos, if_neg, ↓reduceIte, reduceCtorEq, eq_self, if_true, if_false, not_true_eq_false, not_false_eq_true, mo_k, mo_fI, mo_fL, mo_pI, mo_pL, mo_z0, mo_z1, mo_fR1, mo1_a, mo1_t, mo1_n, mo_fR14, mo14_a, mo14_t, mo14_n, mo_fR15, mo15_a, mo15_t, mo15_n, mo_fR16, mo16_a, mo16_t, mo16_n, mo_fR17, mo17_a, mo17_t, mo17_n, mo_fR18, mo18_a, mo18_t, mo18_n, mo_fR19, mo19_a, mo19_t, mo19_n, mo_fR20, mo20_a, mo20_t, mo20_n, mo_fR21, mo21_a, mo21_t, mo21_n, mo_fR22, mo22_a, mo22_t, mo22_n, mo_fR25, mo25_a, mo25_t, mo25_n, mo_fR26, mo26_a, mo26_t, mo26_n, mo_fR28, mo28_a, mo28_t, mo28_n, mo_fR29, mo29_a, mo29_t, mo29_n, mo_fR30, mo30_a, mo30_t, mo30_n, mo_fR33, mo33_a, mo33_t, mo33_n, mo_fR36, mo36_a, mo36_t, mo36_n, mo_fR37, mo37_a, mo37_t, mo37_n, mo_fR40, mo40_a, mo40_t, mo40_n, e2, Nat.add_sub_cancel, e3]
    · refine WC_of (fun q hq => ?_) (fun _ _ => rfl) hC2
      rw [cpy_row (by omega), up_row (by omega), up_row (by omega)]
    · have hP := hM2.2.1.2.2 s (by omega)
      refine WM_act hM2 (B' := P s) ⟨?_, ?_⟩ ⟨by omega, ?_, ?_⟩ (fun q h1 h2 h3 h4 => ?_) (fun k' h1 h2 h3 => ?_) (fun k' h1 => ?_)
      · refine MH_of hO (o := 0) (g := J 188) (fun k hk => ?_) hM2.1.1
        rw [cpy_out (by omega), up_row (by omega), up_row (by omega)]
      · intro k hk
        rw [cpy_in (by omega), up_row (by omega), up_row (by omega), show 35 + k - 35 = k by omega]
        exact hP k hk
      · rw [cpy_row (by omega)]; simp (disch := omega) only [up_at, up_off, upL_at, upL_off, if_pos, if_neg, if_true, true_or, or_true, true_and, and_true]
      · intro j hj k hk
        rw [cpy_row (by omega), up_row (by omega), up_row (by omega)]
        exact hM2.2.1.2.2 j (by omega) k hk
      · rw [cpy_row (by omega), up_row (by omega), up_row (by omega)]
      · rw [cpy_row (by omega), up_ofk (by omega), up_ofk (by omega)]
      · rw [cpy_out (by omega), up_row (by omega), up_row (by omega)]
    · exact ⟨⟨hO, hI.1.2.1, hI.2.2.1 s (by omega)⟩, hI.2.1, fun j hj => hI.2.2.1 j (by omega), hI.2.2.2⟩
end
