section
variable {H : Nat → Nat} {B : Nat → Int32} {I : Nat → Nat → Int32} {L : Nat → Nat → Int64} {r : Bool} {N : Nat}
theorem c_drawnL (hN : 1200 < N) (hO : hOk H) (hs : RS 4 H I) (hb : BR 26 B I) {h n : Nat} {x : Int32} (hx : I 132 1 = x) (hz : B 0 = i32 h) (hh : h + n ≤ 400) : ∃ J, fX10_drawn_L51 N 0 (i32 n) N (i32 0) (mk I L r) = some (i32 n, mk J L r) ∧ BR 26 (dhs H h (x, B) n).2 J ∧ FrD 26 I J := by
  have ha : isBe 26 = true := rfl
  obtain ⟨J, e, g1, g2, g3⟩ := lp_st (F := fun n' v J => fX10_drawn_L51 N 0 (i32 n) n' v (mk J L r)) (m := n) (fun k J => BR 26 (dhs H h (x, B) k).2 J ∧ FrD 26 I J ∧ J 132 1 = (dhs H h (x, B) k).1) (fun J => (i32 n, mk J L r)) (fun n' k J hk hJ => by
    obtain ⟨g1, g2, g3⟩ := hJ
    have hs' := RS_fd hs ha g2
    obtain ⟨J2, e2, g4, g5, g6⟩ := c_passHourIn (N := N) (L := L) (r := r) hN hO hs' ha g1 (h := h + k) (dhs_0 (q := (x, B)) hz k) (by omega)
    rw [g3] at g4 g6
    refine ⟨J2, ?_, g4, g2.tr g5, g6⟩
    simp (disch := first | assumption | omega | rfl) only [i_rem, i_pred, i_addn1, i_lit, i_n1, i_add, i_mul, i_sub, i_le, i_lt, i_eq, i_ne1, n1_ne, n1_lt, n1_le, i_lt1, i_le1, bd_s, nar_bi, nar_0, nar_1, if_pos, if_neg, ↓reduceIte, reduceCtorEq, eq_self, if_true, if_false, not_true_eq_false, not_false_eq_true, x0_k, x0_fI, x0_fL, x0_pI, x0_pL, x0_z0, x0_z1, x0_fR0, x0_fR1, x0_fR2, x0_fR3, x0_fR4, x0_fR5, x0_fR6, x0_fR7, x0_fR8, x0_fR9, x0_fR10, x0_fR11, x0_fR12, x0_fR13, x013_a, x013_t, x013_n, x0_fR15, x0_fR16, x0_fR17, x0_fR18, x018_a, x018_t, x018_n, dr_k, dr_fI, dr_fL, dr_pI, dr_pL, dr_z0, dr_z1, dr_fR0, fX10_drawn_L51, e2]) (fun n' J _ => by
    simp (disch := first | assumption | omega | rfl) only [i_rem, i_pred, i_addn1, i_lit, i_n1, i_add, i_mul, i_sub, i_le, i_lt, i_eq, i_ne1, n1_ne, n1_lt, n1_le, i_lt1, i_le1, bd_s, nar_bi, nar_0, nar_1, if_pos, if_neg, ↓reduceIte, reduceCtorEq, eq_self, if_true, if_false, not_true_eq_false, not_false_eq_true, fX10_drawn_L51]) (n := N) (by omega) (s := I) ⟨hb, FrD.rf, hx⟩
  exact ⟨J, e, g1, g2⟩
theorem q_drawn (hN : 1200 < N) (h : Ok I L) {v x : Int32} : Step2 (fX10_drawn N 0 v x) (fX11_drawn N 186 v x) I L r := by
  obtain ⟨⟨H, W, B, D⟩, G, s, P, n, T, f, E, hC, hM, hI⟩ := h
  have hO : hOk H := hI.1.1
  have hB : bOk H B := hI.1.2.2
  have hs : RS 4 H I := hC.1.1
  have hb : BR 26 B I := hC.1.2.2.1
  have hm : MR H B (up I 186 0 (i32 0)) := WM_R (WM_t hM)
  have ha : isBe 26 = true := rfl
  have o0 := hO.1; have o1 := hO.2.1; have o2 := hO.2.2.1; have o3 := hO.2.2.2.1; have o4 := hO.2.2.2.2.1; have o5 := hO.2.2.2.2.2.1
  obtain ⟨h0, hh, hz⟩ := hB.1
  rcases in_1 (v := v) (m := 60) (by omega) (by omega) with ⟨k, hk1, hk, rfl, e9⟩ | ⟨hv, e9⟩
  · have emin : (if 400 - h0 < k then 400 - h0 else k) = min k (400 - h0) := by split <;> omega
    have emin' : (if i32 (400 - h0) < i32 k then i32 (400 - h0) else i32 k) = i32 (min k (400 - h0)) := by
      rw [← emin]; simp (disch := omega) only [i_lt]; split <;> rfl
    have c1 : ¬ i32 k < i32 1 := by rw [i_lt (by omega) (by omega)]; omega
    have c2 : i32 k ≤ i32 60 := by rw [i_le (by omega) (by omega)]; omega
    by_cases h4 : h0 = 400
    · refine Step_q (x := i32 0) (v := i32 0) ⟨hC, hM, hI⟩ ?_ ?_
      · have e0 : min k (400 - h0) = 0 := by omega
        have c3 : i32 0 ≤ i32 0 := by decide
        unfold fX10_drawn
        simp (disch := first | assumption | omega | rfl) only [be_k, be_fI, be_fL, be_pI, be_pL, be_z0, be_z1, be_fR0, be_fR1, be1_a, be1_t, be1_n, be_fR2, be2_a, be2_t, be2_n, be_fR3, be3_a, be3_t, be3_n, be_fR4, be4_a, be4_t, be4_n, be_fR5, be5_a, be5_t, be5_n, be_fR6, be6_a, be6_t, be6_n, be_fR7, be7_a, be7_t, be7_n, x0_k, x0_fI, x0_fL, x0_pI, x0_pL, x0_z0, x0_z1, x0_fR0, x0_fR1, x0_fR2, x0_fR3, x0_fR4, x0_fR5, x0_fR6, x0_fR7, x0_fR8, x0_fR9, x0_fR10, x0_fR11, x0_fR12, x0_fR13, x013_a, x013_t, x013_n, x0_fR15, x0_fR16, x0_fR17, x0_fR18, x018_a, x018_t, x018_n, pa_k, pa_fI, pa_fL, pa_pI, pa_pL, pa_z0, pa_z1, pa_fR0, i_lit, i_n1, bd_s, eq_self, if_true, c_hoursLeft ha hb hz hh, emin', e0, c1, c2, c3, if_pos, if_neg, if_false]
      · unfold fX11_drawn
        simp (disch := first | assumption | omega | rfl) only [i_rem, i_pred, i_addn1, i_lit, i_n1, i_add, i_mul, i_sub, i_le, i_lt, i_eq, i_ne1, n1_ne, n1_lt, n1_le, i_lt1, i_le1, bd_s, nar_bi, nar_0, nar_1, if_pos, if_neg, ↓reduceIte, reduceCtorEq, eq_self, if_true, if_false, not_true_eq_false, not_false_eq_true, mo_k, mo_fI, mo_fL, mo_pI, mo_pL, mo_z0, mo_z1, mo_fR1, mo1_a, mo1_t, mo1_n, mo_fR14, mo14_a, mo14_t, mo14_n, mo_fR15, mo15_a, mo15_t, mo15_n, mo_fR16, mo16_a, mo16_t, mo16_n, mo_fR17, mo17_a, mo17_t, mo17_n, mo_fR18, mo18_a, mo18_t, mo18_n, mo_fR19, mo19_a, mo19_t, mo19_n, mo_fR20, mo20_a, mo20_t, mo20_n, mo_fR21, mo21_a, mo21_t, mo21_n, mo_fR22, mo22_a, mo22_t, mo22_n, mo_fR25, mo25_a, mo25_t, mo25_n, mo_fR26, mo26_a, mo26_t, mo26_n, mo_fR28, mo28_a, mo28_t, mo28_n, mo_fR29, mo29_a, mo29_t, mo29_n, mo_fR30, mo30_a, mo30_t, mo30_n, mo_fR33, mo33_a, mo33_t, mo33_n, mo_fR36, mo36_a, mo36_t, mo36_n, mo_fR37, mo37_a, mo37_t, mo37_n, mo_fR40, mo40_a, mo40_t, mo40_n, m_isInT e9, m_hr hm, hz]
    · obtain ⟨J, e1, g1, g2⟩ := c_keepCopy (N := N) (L := L) (r := r) hC.2.1 hb
      have hb' : BR 26 B (up J 132 1 x) := BR_up (BR_of (fun q h1 h2 => g2 q (by omega)) hb) (by omega)
      have hs' : RS 4 H (up J 132 1 x) := RS_of (fun q h1 h2 => by rw [up_row (by omega)]; exact g2 q (by omega)) hs
      obtain ⟨J2, e2, g3, g4⟩ := c_drawnL (N := N) (L := L) (r := r) hN hO hs' hb' (n := min k (400 - h0)) (x := x) (by simp (disch := omega) only [up_at, up_off, upL_at, upL_off, if_pos, if_neg, if_true, true_or, or_true, true_and, and_true]) hz (by omega)
      have fr : ∀ q, (q < 26 ∨ 108 ≤ q) → q ≠ 132 → J2 q = I q := fun q hq hq2 => by
        rw [g4 q (by omega) hq2, up_row hq2]; exact g2 q (by omega)
      have hC2 := WC_act hC g3 (PR_of (J := J2) (fun q h1 h2 => by rw [g4 q (by omega) (by omega), up_row (by omega)]) g1) fr
      have hM2 := WM_c (J := J2) (K := L) (fun q hq => fr q (by omega) (by omega)) (fun _ _ _ => rfl) hM
      have hM3 := WM_t (v := i32 0) hM2
      have hm2 := WM_R hM3
      obtain ⟨J3, e3, g5, g6, g7⟩ := m_snap (N := N) (L := L) (r := r) hN hM3.2.1 hm2.2
      have hm3 : MR H B J3 := by
        unfold MR; rw [g6 188 (by omega) (by omega)]; exact hm2
      obtain ⟨J4, e4, g8, g9, g10, g11⟩ := m_drawHours (N := N) (L := L) (r := r) (n := k) (x := x) hN hO hm3 hz hh (by omega)
      refine ⟨i32 (min k (400 - h0)), J2, L, r, J4, L, ?_, ?_, (H, W, (dhs H h0 (x, B) (min k (400 - h0))).2, D), G, pushN s, pushP s P B, n, T, f, E, ?_, ?_, ?_⟩
      · have c3 : ¬ i32 (min k (400 - h0)) ≤ i32 0 := by rw [i_le (by omega) (by omega)]; omega
        unfold fX10_drawn
        simp (disch := first | assumption | omega | rfl) only [be_k, be_fI, be_fL, be_pI, be_pL, be_z0, be_z1, be_fR0, be_fR1, be1_a, be1_t, be1_n, be_fR2, be2_a, be2_t, be2_n, be_fR3, be3_a, be3_t, be3_n, be_fR4, be4_a, be4_t, be4_n, be_fR5, be5_a, be5_t, be5_n, be_fR6, be6_a, be6_t, be6_n, be_fR7, be7_a, be7_t, be7_n, x0_k, x0_fI, x0_fL, x0_pI, x0_pL, x0_z0, x0_z1, x0_fR0, x0_fR1, x0_fR2, x0_fR3, x0_fR4, x0_fR5, x0_fR6, x0_fR7, x0_fR8, x0_fR9, x0_fR10, x0_fR11, x0_fR12, x0_fR13, x013_a, x013_t, x013_n, x0_fR15, x0_fR16, x0_fR17, x0_fR18, x018_a, x018_t, x018_n, pa_k, pa_fI, pa_fL, pa_pI, pa_pL, pa_z0, pa_z1, pa_fR0, dr_k, dr_fI, dr_fL, dr_pI, dr_pL, dr_z0, dr_z1, dr_fR0, i_lit, i_n1, bd_s, eq_self, if_true, c_hoursLeft ha hb hz hh, emin', c1, c2, c3, if_pos, if_neg, e1, e2, if_false, fX2_start]
      · unfold fX11_drawn
        simp (disch := first | assumption | omega | rfl) only [i_rem, i_pred, i_addn1, i_lit, i_n1, i_add, i_mul, i_sub, i_le, i_lt, i_eq, i_ne1, n1_ne, n1_lt, n1_le, i_lt1, i_le1, bd_s, nar_bi, nar_0, nar_1, if_pos, if_neg, ↓reduceIte, reduceCtorEq, eq_self, if_true, if_false, not_true_eq_false, not_false_eq_true, mo_k, mo_fI, mo_fL, mo_pI, mo_pL, mo_z0, mo_z1, mo_fR1, mo1_a, mo1_t, mo1_n, mo_fR14, mo14_a, mo14_t, mo14_n, mo_fR15, mo15_a, mo15_t, mo15_n, mo_fR16, mo16_a, mo16_t, mo16_n, mo_fR17, mo17_a, mo17_t, mo17_n, mo_fR18, mo18_a, mo18_t, mo18_n, mo_fR19, mo19_a, mo19_t, mo19_n, mo_fR20, mo20_a, mo20_t, mo20_n, mo_fR21, mo21_a, mo21_t, mo21_n, mo_fR22, mo22_a, mo22_t, mo22_n, mo_fR25, mo25_a, mo25_t, mo25_n, mo_fR26, mo26_a, mo26_t, mo26_n, mo_fR28, mo28_a, mo28_t, mo28_n, mo_fR29, mo29_a, mo29_t, mo29_n, mo_fR30, mo30_a, mo30_t, mo30_n, mo_fR33, mo33_a, mo33_t, mo33_n, mo_fR36, mo36_a, mo36_t, mo36_n, mo_fR37, mo37_a, mo37_t, mo37_n, mo_fR40, mo40_a, mo40_t, mo40_n, m_isInT e9, m_hr hm2, hz, e3, e4]
      · refine WC_of (fun q hq => ?_) (fun _ _ => rfl) hC2
        rw [g9 q (by omega) (by omega), g6 q (by omega) (by omega), up_row (by omega)]
      · refine WM_act hM2 g8 ?_ (fun q h1 h2 h3 h4 => ?_) (fun k' h1 h2 h3 => ?_) (fun k' h1 => ?_)
        · unfold MP at *; rw [g10 24 (by omega), g9 191 (by omega) (by omega)]; exact g5
        · rw [g9 q (by omega) (by omega), g6 q (by omega) (by omega), up_row (by omega)]
        · rw [g10 k' (by omega), g7 k' (by omega), up_ofk (by omega)]
        · rw [g11 k' (by omega), g6 188 (by omega) (by omega), up_row (by omega)]
      · exact ⟨⟨hO, hI.1.2.1, bOk_dhs hO hB hz (by omega)⟩, hI.2.1, bOk_push hI.2.2.1 (PR_8 hC.2.1) hB, hI.2.2.2⟩
  · refine Step_q (x := n1) (v := i32 0) ⟨hC, hM, hI⟩ ?_ ?_
    · unfold fX10_drawn
      simp only [i_lit, i_n1]
      rcases hv with hv | ⟨hv, hv2⟩
      · rw [if_pos hv]
      · rw [if_neg hv, if_neg hv2]
    · unfold fX11_drawn
      simp (disch := first | assumption | omega | rfl) only [i_rem, i_pred, i_addn1, i_lit, i_n1, i_add, i_mul, i_sub, i_le, i_lt, i_eq, i_ne1, n1_ne, n1_lt, n1_le, i_lt1, i_le1, bd_s, nar_bi, nar_0, nar_1, if_pos, if_neg, ↓reduceIte, reduceCtorEq, eq_self, if_true, if_false, not_true_eq_false, not_false_eq_true, mo_k, mo_fI, mo_fL, mo_pI, mo_pL, mo_z0, mo_z1, mo_fR1, mo1_a, mo1_t, mo1_n, mo_fR14, mo14_a, mo14_t, mo14_n, mo_fR15, mo15_a, mo15_t, mo15_n, mo_fR16, mo16_a, mo16_t, mo16_n, mo_fR17, mo17_a, mo17_t, mo17_n, mo_fR18, mo18_a, mo18_t, mo18_n, mo_fR19, mo19_a, mo19_t, mo19_n, mo_fR20, mo20_a, mo20_t, mo20_n, mo_fR21, mo21_a, mo21_t, mo21_n, mo_fR22, mo22_a, mo22_t, mo22_n, mo_fR25, mo25_a, mo25_t, mo25_n, mo_fR26, mo26_a, mo26_t, mo26_n, mo_fR28, mo28_a, mo28_t, mo28_n, mo_fR29, mo29_a, mo29_t, mo29_n, mo_fR30, mo30_a, mo30_t, mo30_n, mo_fR33, mo33_a, mo33_t, mo33_n, mo_fR36, mo36_a, mo36_t, mo36_n, mo_fR37, mo37_a, mo37_t, mo37_n, mo_fR40, mo40_a, mo40_t, mo40_n, m_isInF e9]
/-! odds -/
theorem c_oddsIn (hN : 1200 < N) (hO : hOk H) (hs : RS 4 H I) (hb : BR 34 B I) {h l : Nat} {x v2 v3 v4 v5 : Int32} (hx : I 132 1 = x) (hz : B 0 = i32 h) (hh : h ≤ 400) (hl : l < H 2) : ∃ J C, fX10_odds_L61 N 0 (i32 l) v2 v3 v4 v5 N (i32 0) (mk I L r) = some (mk J L r) ∧ BR 34 C J ∧ FrD 34 I J ∧ lpd C l = lpd (dhs H h (x, B) (min 20 (400 - h))).2 l := by
  have ha : isBe 34 = true := rfl
  obtain ⟨M, e, J, C, rfl, g1, g2, g3⟩ := lp_in (F := fun n (s : Int32 × (Nat → Nat → Int32)) => fX10_odds_L61 N 0 (i32 l) v2 v3 v4 v5 n s.1 (mk s.2 L r)) (m := 20) (fun k s => s.1 = i32 k ∧ h + k ≤ 400 ∧ BR 34 (dhs H h (x, B) k).2 s.2 ∧ FrD 34 I s.2 ∧ s.2 132 1 = (dhs H h (x, B) k).1) (fun M => ∃ J C, M = mk J L r ∧ BR 34 C J ∧ FrD 34 I J ∧ lpd C l = lpd (dhs H h (x, B) (min 20 (400 - h))).2 l) (fun n k s hk hJ => by
    obtain ⟨u, J⟩ := s
    obtain ⟨h1, h2, h3, h4, h5⟩ := hJ
    dsimp only at h1 h3 h4 h5 ⊢
    subst h1
    have hs' := RS_fd hs ha h4
    have h0 : (dhs H h (x, B) k).2 0 = i32 (h + k) := dhs_0 (q := (x, B)) hz k
    by_cases c1 : k = 20
    · refine Or.inl ⟨mk J L r, ?_, J, _, rfl, h3, h4, ?_⟩
      · simp (disch := first | assumption | omega | rfl) only [i_rem, i_pred, i_addn1, i_lit, i_n1, i_add, i_mul, i_sub, i_le, i_lt, i_eq, i_ne1, n1_ne, n1_lt, n1_le, i_lt1, i_le1, bd_s, nar_bi, nar_0, nar_1, if_pos, if_neg, ↓reduceIte, reduceCtorEq, eq_self, if_true, if_false, not_true_eq_false, not_false_eq_true, fX10_odds_L61]
      · rw [show min 20 (400 - h) = k by omega]
    · by_cases c2 : h + k = 400
      · refine Or.inl ⟨mk J L r, ?_, J, _, rfl, h3, h4, ?_⟩
        · simp (disch := first | assumption | omega | rfl) only [i_rem, i_pred, i_addn1, i_lit, i_n1, i_add, i_mul, i_sub, i_le, i_lt, i_eq, i_ne1, n1_ne, n1_lt, n1_le, i_lt1, i_le1, bd_s, nar_bi, nar_0, nar_1, if_pos, if_neg, ↓reduceIte, reduceCtorEq, eq_self, if_true, if_false, not_true_eq_false, not_false_eq_true, x0_k, x0_fI, x0_fL, x0_pI, x0_pL, x0_z0, x0_z1, x0_fR0, x0_fR1, x0_fR2, x0_fR3, x0_fR4, x0_fR5, x0_fR6, x0_fR7, x0_fR8, x0_fR9, x0_fR10, x0_fR11, x0_fR12, x0_fR13, x013_a, x013_t, x013_n, x0_fR15, x0_fR16, x0_fR17, x0_fR18, x018_a, x018_t, x018_n, be_k, be_fI, be_fL, be_pI, be_pL, be_z0, be_z1, be_fR0, be_fR1, be1_a, be1_t, be1_n, be_fR2, be2_a, be2_t, be2_n, be_fR3, be3_a, be3_t, be3_n, be_fR4, be4_a, be4_t, be4_n, be_fR5, be5_a, be5_t, be5_n, be_fR6, be6_a, be6_t, be6_n, be_fR7, be7_a, be7_t, be7_n, fX10_odds_L61, c_hoursLeft ha h3 h0 h2]
        · rw [show min 20 (400 - h) = k by omega]
      · cases c3 : lpd (dhs H h (x, B) k).2 l with
        | true =>
          refine Or.inl ⟨mk J L r, ?_, J, _, rfl, h3, h4, ?_⟩
          · simp (disch := first | assumption | omega | rfl) only [i_rem, i_pred, i_addn1, i_lit, i_n1, i_add, i_mul, i_sub, i_le, i_lt, i_eq, i_ne1, n1_ne, n1_lt, n1_le, i_lt1, i_le1, bd_s, nar_bi, nar_0, nar_1, if_pos, if_neg, ↓reduceIte, reduceCtorEq, eq_self, if_true, if_false, not_true_eq_false, not_false_eq_true, x0_k, x0_fI, x0_fL, x0_pI, x0_pL, x0_z0, x0_z1, x0_fR0, x0_fR1, x0_fR2, x0_fR3, x0_fR4, x0_fR5, x0_fR6, x0_fR7, x0_fR8, x0_fR9, x0_fR10, x0_fR11, x0_fR12, x0_fR13, x013_a, x013_t, x013_n, x0_fR15, x0_fR16, x0_fR17, x0_fR18, x018_a, x018_t, x018_n, be_k, be_fI, be_fL, be_pI, be_pL, be_z0, be_z1, be_fR0, be_fR1, be1_a, be1_t, be1_n, be_fR2, be2_a, be2_t, be2_n, be_fR3, be3_a, be3_t, be3_n, be_fR4, be4_a, be4_t, be4_n, be_fR5, be5_a, be5_t, be5_n, be_fR6, be6_a, be6_t, be6_n, be_fR7, be7_a, be7_t, be7_n, fX10_odds_L61, c_hoursLeft ha h3 h0 h2, c_hasLapsed ha h3, c3, bi_z]
          · have := lp_dhs hO hl c3 (min 20 (400 - h) - k)
            rw [show k + (min 20 (400 - h) - k) = min 20 (400 - h) by omega] at this
            rw [c3, this]
        | false =>
          obtain ⟨J2, e2, g4, g5, g6⟩ := c_passHourIn (N := N) (L := L) (r := r) hN hO hs' ha h3 (h := h + k) h0 (by omega)
          rw [h5] at g4 g6
          refine Or.inr ⟨by omega, (i32 (k + 1), J2), ?_, rfl, by omega, g4, h4.tr g5, g6⟩
          simp (disch := first | assumption | omega | rfl) only [i_rem, i_pred, i_addn1, i_lit, i_n1, i_add, i_mul, i_sub, i_le, i_lt, i_eq, i_ne1, n1_ne, n1_lt, n1_le, i_lt1, i_le1, bd_s, nar_bi, nar_0, nar_1, if_pos, if_neg, ↓reduceIte, reduceCtorEq, eq_self, if_true, if_false, not_true_eq_false, not_false_eq_true, x0_k, x0_fI, x0_fL, x0_pI, x0_pL, x0_z0, x0_z1, x0_fR0, x0_fR1, x0_fR2, x0_fR3, x0_fR4, x0_fR5, x0_fR6, x0_fR7, x0_fR8, x0_fR9, x0_fR10, x0_fR11, x0_fR12, x0_fR13, x013_a, x013_t, x013_n, x0_fR15, x0_fR16, x0_fR17, x0_fR18, x018_a, x018_t, x018_n, be_k, be_fI, be_fL, be_pI, be_pL, be_z0, be_z1, be_fR0, be_fR1, be1_a, be1_t, be1_n, be_fR2, be2_a, be2_t, be2_n, be_fR3, be3_a, be3_t, be3_n, be_fR4, be4_a, be4_t, be4_n, be_fR5, be5_a, be5_t, be5_n, be_fR6, be6_a, be6_t, be6_n, be_fR7, be7_a, be7_t, be7_n, dr_k, dr_fI, dr_fL, dr_pI, dr_pL, dr_z0, dr_z1, dr_fR0, fX10_odds_L61, c_hoursLeft ha h3 h0 h2, c_hasLapsed ha h3, c3, bi_z, e2]) (n := N) (by omega) (s := (i32 0, I)) ⟨rfl, hh, hb, FrD.rf, hx⟩
  exact ⟨J, C, e, g1, g2, g3⟩
/-- in how many of m runs the law l has not lapsed -/
def odc (H : Nat → Nat) (B : Nat → Int32) (h l : Nat) (x : Int32) (m : Nat) : Nat := fo (fun k s => if lpd (dhs H h (x + i32 k, B) (min 20 (400 - h))).2 l then s else s + 1) 0 m
theorem odc_s {h l m : Nat} {x : Int32} : odc H B h l x (m + 1) = if lpd (dhs H h (x + i32 m, B) (min 20 (400 - h))).2 l then odc H B h l x m else odc H B h l x m + 1 := rfl
theorem c_oddsL (hN : 1200 < N) (hO : hOk H) (hs : RS 4 H I) (hb : BR 26 B I) {h l m : Nat} {x : Int32} (hz : B 0 = i32 h) (hh : h ≤ 400) (hl : l < H 2) (hm : m ≤ 30) : ∃ J, fX10_odds_L30 N 0 (i32 l) (i32 m) x N (i32 0) (i32 0) (mk I L r) = some (i32 (odc H B h l x m), mk J L r) ∧ FrD 34 I J := by
  have ha : isBe 34 = true := rfl
  obtain ⟨s, e, g1, g2⟩ := lp_st (F := fun n' v (s : Nat × (Nat → Nat → Int32)) => fX10_odds_L30 N 0 (i32 l) (i32 m) x n' (i32 s.1) v (mk s.2 L r)) (m := m) (fun k s => s.1 = odc H B h l x k ∧ FrD 34 I s.2) (fun s => (i32 s.1, mk s.2 L r)) (fun n' k s hk hJ => by
    obtain ⟨c, J⟩ := s
    obtain ⟨h1, h2⟩ := hJ
    dsimp only at h1 h2 ⊢
    subst h1
    have hs' := RS_fd hs ha h2
    have hb1 : BR 26 B J := BR_of (fun q h3 h4 => h2 q (by omega) (by omega)) hb
    obtain ⟨J1, e1, g1, g2⟩ := c_copyFrom (N := N) (L := L) (r := r) (a := 34) (c := 26) ha rfl (by omega) hb1
    have hs1 : RS 4 H (up J1 132 1 (x + i32 k)) := RS_of (fun q h3 h4 => by rw [up_row (by omega)]; exact g2 q (by omega)) hs'
    have hb2 : BR 34 B (up J1 132 1 (x + i32 k)) := BR_up g1 (by omega)
    obtain ⟨J2, C, e2, g3, g4, g5⟩ := c_oddsIn (N := N) (L := L) (r := r) (v2 := i32 m) (v3 := x) (v4 := i32 (odc H B h l x k)) (v5 := i32 k) hN hO hs1 hb2 (x := x + i32 k) (by simp (disch := omega) only [up_at, up_off, upL_at, upL_off, if_pos, if_neg, if_true, true_or, or_true, true_and, and_true]) hz hh hl
    have fr : FrD 34 I J2 := h2.tr (g2.d.tr (FrD_up.tr g4))
    cases c3 : lpd (dhs H h (x + i32 k, B) (min 20 (400 - h))).2 l with
    | true =>
      rw [c3] at g5
      refine ⟨(odc H B h l x k, J2), ?_, by rw [odc_s, c3]; rfl, fr⟩
      simp (disch := first | assumption | omega | rfl) only [i_rem, i_pred, i_addn1, i_lit, i_n1, i_add, i_mul, i_sub, i_le, i_lt, i_eq, i_ne1, n1_ne, n1_lt, n1_le, i_lt1, i_le1, bd_s, nar_bi, nar_0, nar_1, if_pos, if_neg, ↓reduceIte, reduceCtorEq, eq_self, if_true, if_false, not_true_eq_false, not_false_eq_true, x0_k, x0_fI, x0_fL, x0_pI, x0_pL, x0_z0, x0_z1, x0_fR0, x0_fR1, x0_fR2, x0_fR3, x0_fR4, x0_fR5, x0_fR6, x0_fR7, x0_fR8, x0_fR9, x0_fR10, x0_fR11, x0_fR12, x0_fR13, x013_a, x013_t, x013_n, x0_fR15, x0_fR16, x0_fR17, x0_fR18, x018_a, x018_t, x018_n, be_k, be_fI, be_fL, be_pI, be_pL, be_z0, be_z1, be_fR0, be_fR1, be1_a, be1_t, be1_n, be_fR2, be2_a, be2_t, be2_n, be_fR3, be3_a, be3_t, be3_n, be_fR4, be4_a, be4_t, be4_n, be_fR5, be5_a, be5_t, be5_n, be_fR6, be6_a, be6_t, be6_n, be_fR7, be7_a, be7_t, be7_n, dr_k, dr_fI, dr_fL, dr_pI, dr_pL, dr_z0, dr_z1, dr_fR0, fX10_odds_L30, fX10_odds_J106_30, e1, fX2_start, e2, c_hasLapsed ha g3, g5, bi_z]
    | false =>
      rw [c3] at g5
      refine ⟨(odc H B h l x k + 1, J2), ?_, by rw [odc_s, c3]; rfl, fr⟩
      simp (disch := first | assumption | omega | rfl) only [i_rem, i_pred, i_addn1, i_lit, i_n1, i_add, i_mul, i_sub, i_le, i_lt, i_eq, i_ne1, n1_ne, n1_lt, n1_le, i_lt1, i_le1, bd_s, nar_bi, nar_0, nar_1, if_pos, if_neg, ↓reduceIte, reduceCtorEq, eq_self, if_true, if_false, not_true_eq_false, not_false_eq_true, x0_k, x0_fI, x0_fL, x0_pI, x0_pL, x0_z0, x0_z1, x0_fR0, x0_fR1, x0_fR2, x0_fR3, x0_fR4, x0_fR5, x0_fR6, x0_fR7, x0_fR8, x0_fR9, x0_fR10, x0_fR11, x0_fR12, x0_fR13, x013_a, x013_t, x013_n, x0_fR15, x0_fR16, x0_fR17, x0_fR18, x018_a, x018_t, x018_n, be_k, be_fI, be_fL, be_pI, be_pL, be_z0, be_z1, be_fR0, be_fR1, be1_a, be1_t, be1_n, be_fR2, be2_a, be2_t, be2_n, be_fR3, be3_a, be3_t, be3_n, be_fR4, be4_a, be4_t, be4_n, be_fR5, be5_a, be5_t, be5_n, be_fR6, be6_a, be6_t, be6_n, be_fR7, be7_a, be7_t, be7_n, dr_k, dr_fI, dr_fL, dr_pI, dr_pL, dr_z0, dr_z1, dr_fR0, fX10_odds_L30, fX10_odds_J106_30, e1, fX2_start, e2, c_hasLapsed ha g3, g5, bi_z]) (fun n' s _ => by
    simp (disch := first | assumption | omega | rfl) only [i_rem, i_pred, i_addn1, i_lit, i_n1, i_add, i_mul, i_sub, i_le, i_lt, i_eq, i_ne1, n1_ne, n1_lt, n1_le, i_lt1, i_le1, bd_s, nar_bi, nar_0, nar_1, if_pos, if_neg, ↓reduceIte, reduceCtorEq, eq_self, if_true, if_false, not_true_eq_false, not_false_eq_true, fX10_odds_L30]) (n := N) (by omega) (s := (0, I)) ⟨rfl, FrD.rf⟩
  refine ⟨s.2, ?_, g2⟩
  rw [← g1]; exact e
theorem m_oddsL (hN : 1200 < N) (hO : hOk H) (hm : MR H B I) (hs : MB (I 192) 0 B) {h l m : Nat} {x : Int32} (hz : B 0 = i32 h) (hh : h ≤ 400) (hl : l < H 2) (h30 : m ≤ 30) : ∃ J, fX11_odds_L35 N 186 (i32 l) (i32 m) x N (i32 0) (i32 0) (mk I L r) = some (i32 (odc H B h l x m), mk J L r) ∧ MR H B J ∧ FrE I J := by
  obtain ⟨s, e, g1, g2, g3⟩ := lp_st (F := fun n' v (s : Nat × (Nat → Nat → Int32)) => fX11_odds_L35 N 186 (i32 l) (i32 m) x n' (i32 s.1) v (mk s.2 L r)) (m := m) (fun k s => s.1 = odc H B h l x k ∧ MR H B s.2 ∧ FrE I s.2) (fun s => (i32 s.1, mk s.2 L r)) (fun n' k s hk hJ => by
    obtain ⟨c, J⟩ := s
    obtain ⟨h1, h2, h3⟩ := hJ
    dsimp only at h1 h2 h3 ⊢
    subst h1
    obtain ⟨J1, e1, g1, g2⟩ := m_drawHours (N := N) (L := L) (r := r) (n := 20) (x := x + i32 k) hN hO h2 hz hh (by omega)
    have e2 := m_takeBack (N := N) (I := J1) (L := L) (r := r) hN
    have fr : FrE I J1 := h3.tr g2
    have mr : MR H B (cpy J1 192 0 188 35 164) := by
      refine ⟨MH_of hO (o := 0) (g := J1 188) (fun k hk => by rw [cpy_out (by omega)]) g1.1, fun k hk => ?_⟩
      rw [cpy_in (by omega), fr.1 192 (by omega) (by omega), show 35 + k - 35 = k by omega]
      exact hs k hk
    have fr2 : FrE I (cpy J1 192 0 188 35 164) := ⟨fun q h4 h5 => by rw [cpy_row h5]; exact fr.1 q h4 h5, fun k hk => by rw [cpy_row (by omega)]; exact fr.2.1 k hk, fun k hk => by rw [cpy_out (by omega)]; exact fr.2.2 k hk⟩
    have e3 := m_has (N := N) (B := (dhs H h (x + i32 k, B) (min 20 (400 - h))).2) (l := l) (M := mk J1 L r)
    cases c3 : lpd (dhs H h (x + i32 k, B) (min 20 (400 - h))).2 l with
    | true =>
      rw [c3] at e3
      refine ⟨(odc H B h l x k, cpy J1 192 0 188 35 164), ?_, by rw [odc_s, c3]; rfl, mr, fr2⟩
      simp (disch := first | assumption | omega | rfl) only [i_rem, i_pred, i_addn1, i_lit, i_n1, i_add, i_mul, i_sub, i_le, i_lt, i_eq, i_ne1, n1_ne, n1_lt, n1_le, i_lt1, i_le1, bd_s, nar_bi, nar_0, nar_1, if_pos, if_neg, ↓reduceIte, reduceCtorEq, eq_self, if_true, if_false, not_true_eq_false, not_false_eq_true, mo_k, mo_fI, mo_fL, mo_pI, mo_pL, mo_z0, mo_z1, mo_fR1, mo1_a, mo1_t, mo1_n, mo_fR14, mo14_a, mo14_t, mo14_n, mo_fR15, mo15_a, mo15_t, mo15_n, mo_fR16, mo16_a, mo16_t, mo16_n, mo_fR17, mo17_a, mo17_t, mo17_n, mo_fR18, mo18_a, mo18_t, mo18_n, mo_fR19, mo19_a, mo19_t, mo19_n, mo_fR20, mo20_a, mo20_t, mo20_n, mo_fR21, mo21_a, mo21_t, mo21_n, mo_fR22, mo22_a, mo22_t, mo22_n, mo_fR25, mo25_a, mo25_t, mo25_n, mo_fR26, mo26_a, mo26_t, mo26_n, mo_fR28, mo28_a, mo28_t, mo28_n, mo_fR29, mo29_a, mo29_t, mo29_n, mo_fR30, mo30_a, mo30_t, mo30_n, mo_fR33, mo33_a, mo33_t, mo33_n, mo_fR36, mo36_a, mo36_t, mo36_n, mo_fR37, mo37_a, mo37_t, mo37_n, mo_fR40, mo40_a, mo40_t, mo40_n, fX11_odds_L35, e1, m_lp g1, e3, bi_z, e2]
    | false =>
      rw [c3] at e3
      refine ⟨(odc H B h l x k + 1, cpy J1 192 0 188 35 164), ?_, by rw [odc_s, c3]; rfl, mr, fr2⟩
      simp (disch := first | assumption | omega | rfl) only [i_rem, i_pred, i_addn1, i_lit, i_n1, i_add, i_mul, i_sub, i_le, i_lt, i_eq, i_ne1, n1_ne, n1_lt, n1_le, i_lt1, i_le1, bd_s, nar_bi, nar_0, nar_1, if_pos, if_neg, ↓reduceIte, reduceCtorEq, eq_self, if_true, if_false, not_true_eq_false, not_false_eq_true, mo_k, mo_fI, mo_fL, mo_pI, mo_pL, mo_z0, mo_z1, mo_fR1, mo1_a, mo1_t, mo1_n, mo_fR14, mo14_a, mo14_t, mo14_n, mo_fR15, mo15_a, mo15_t, mo15_n, mo_fR16, mo16_a, mo16_t, mo16_n, mo_fR17, mo17_a, mo17_t, mo17_n, mo_fR18, mo18_a, mo18_t, mo18_n, mo_fR19, mo19_a, mo19_t, mo19_n, mo_fR20, mo20_a, mo20_t, mo20_n, mo_fR21, mo21_a, mo21_t, mo21_n, mo_fR22, mo22_a, mo22_t, mo22_n, mo_fR25, mo25_a, mo25_t, mo25_n, mo_fR26, mo26_a, mo26_t, mo26_n, mo_fR28, mo28_a, mo28_t, mo28_n, mo_fR29, mo29_a, mo29_t, mo29_n, mo_fR30, mo30_a, mo30_t, mo30_n, mo_fR33, mo33_a, mo33_t, mo33_n, mo_fR36, mo36_a, mo36_t, mo36_n, mo_fR37, mo37_a, mo37_t, mo37_n, mo_fR40, mo40_a, mo40_t, mo40_n, fX11_odds_L35, e1, m_lp g1, e3, bi_z, e2]) (fun n' s _ => by
    simp (disch := first | assumption | omega | rfl) only [i_rem, i_pred, i_addn1, i_lit, i_n1, i_add, i_mul, i_sub, i_le, i_lt, i_eq, i_ne1, n1_ne, n1_lt, n1_le, i_lt1, i_le1, bd_s, nar_bi, nar_0, nar_1, if_pos, if_neg, ↓reduceIte, reduceCtorEq, eq_self, if_true, if_false, not_true_eq_false, not_false_eq_true, fX11_odds_L35]) (n := N) (by omega) (s := (0, I)) ⟨rfl, hm, FrE.rf⟩
  refine ⟨s.2, ?_, g2, g3⟩
  rw [← g1]; exact e
theorem q_odds (hN : 1200 < N) (h : Ok I L) {u v x : Int32} : Step2 (fX10_odds N 0 u v x) (fX11_odds N 186 u v x) I L r := by
  obtain ⟨⟨H, W, B, D⟩, G, s, P, n, T, f, E, hC, hM, hI⟩ := h
  have hO : hOk H := hI.1.1
  have hB : bOk H B := hI.1.2.2
  have hs : RS 4 H I := hC.1.1
  have hb : BR 26 B I := hC.1.2.2.1
  have hm : MR H B (up I 186 0 (i32 0)) := WM_R (WM_t hM)
  have ha : isBe 26 = true := rfl
  have o0 := hO.1; have o1 := hO.2.1; have o2 := hO.2.2.1; have o3 := hO.2.2.2.1; have o4 := hO.2.2.2.2.1; have o5 := hO.2.2.2.2.2.1
  obtain ⟨h0, hh, hz⟩ := hB.1
  rcases i_in u (n := H 2) (by omega) with ⟨l, hl, rfl⟩ | hu
  · rcases in_1 (v := v) (m := 30) (by omega) (by omega) with ⟨k, hk1, hk, rfl, e9⟩ | ⟨hv, e9⟩
    · obtain ⟨J, e1, g1⟩ := c_oddsL (N := N) (L := L) (r := r) (x := x) hN hO hs hb hz hh hl hk
      have hC2 := WC_act hC (BR_of (J := J) (fun q h1 h2 => g1 q (by omega) (by omega)) hb) (PR_of (J := J) (fun q h1 h2 => g1 q (by omega) (by omega)) hC.2.1) (fun q hq hq2 => g1 q (by omega) hq2)
      have hM2 := WM_c (J := J) (K := L) (fun q hq => g1 q (by omega) (by omega)) (fun _ _ _ => rfl) hM
      have hM3 := WM_t (v := i32 0) hM2
      have hm2 := WM_R hM3
      have e2 := m_layAside (N := N) (I := up J 186 0 (i32 0)) (L := L) (r := r) hN
      have hm3 : MR H B (cpy (up J 186 0 (i32 0)) 188 35 192 0 164) := by
        unfold MR; rw [cpy_row (by omega)]; exact hm2
      obtain ⟨J4, e4, g8, g9, g10, g11⟩ := m_oddsL (N := N) (L := L) (r := r) (x := x) hN hO hm3 (fun k hk => by rw [Nat.zero_add, cpy_in (by omega)]; exact hm2.2 k hk) hz hh hl hk
      refine ⟨i32 (odc H B h0 l x k), J, L, r, J4, L, ?_, ?_, (H, W, B, D), G, s, P, n, T, f, E, ?_, ?_, hI⟩
      · have c1 : ¬ i32 k < i32 1 := by rw [i_lt (by omega) (by omega)]; omega
        have c2 : i32 k ≤ i32 30 := by rw [i_le (by omega) (by omega)]; omega
        unfold fX10_odds
        simp (disch := first | assumption | omega | rfl) only [x0_k, x0_fI, x0_fL, x0_pI, x0_pL, x0_z0, x0_z1, x0_fR0, x0_fR1, x0_fR2, x0_fR3, x0_fR4, x0_fR5, x0_fR6, x0_fR7, x0_fR8, x0_fR9, x0_fR10, x0_fR11, x0_fR12, x0_fR13, x013_a, x013_t, x013_n, x0_fR15, x0_fR16, x0_fR17, x0_fR18, x018_a, x018_t, x018_n, s4_k, s4_fI, s4_fL, s4_pI, s4_pL, s4_z0, s4_z1, s4_fR1, s41_a, s41_t, s41_n, s4_fR2, s42_a, s42_t, s42_n, s4_fR3, s43_a, s43_t, s43_n, s4_fR5, s45_a, s45_t, s45_n, s4_fR7, s47_a, s47_t, s47_n, s4_fR8, s48_a, s48_t, s48_n, s4_fR10, s410_a, s410_t, s410_n, s4_fR11, s411_a, s411_t, s411_n, s4_fR12, s412_a, s412_t, s412_n, s4_fR13, s413_a, s413_t, s413_n, i_lit, i_n1, bd_s, eq_self, if_true, c_hasLaw hO hs, hl, decide_true, bi_z, c1, c2, if_pos, if_neg, e1, if_false, reduceCtorEq, ↓reduceIte, i_eq, nar_bi]
      · unfold fX11_odds
        simp (disch := first | assumption | omega | rfl) only [i_rem, i_pred, i_addn1, i_lit, i_n1, i_add, i_mul, i_sub, i_le, i_lt, i_eq, i_ne1, n1_ne, n1_lt, n1_le, i_lt1, i_le1, bd_s, nar_bi, nar_0, nar_1, if_pos, if_neg, ↓reduceIte, reduceCtorEq, eq_self, if_true, if_false, not_true_eq_false, not_false_eq_true, mo_k, mo_fI, mo_fL, mo_pI, mo_pL, mo_z0, mo_z1, mo_fR1, mo1_a, mo1_t, mo1_n, mo_fR14, mo14_a, mo14_t, mo14_n, mo_fR15, mo15_a, mo15_t, mo15_n, mo_fR16, mo16_a, mo16_t, mo16_n, mo_fR17, mo17_a, mo17_t, mo17_n, mo_fR18, mo18_a, mo18_t, mo18_n, mo_fR19, mo19_a, mo19_t, mo19_n, mo_fR20, mo20_a, mo20_t, mo20_n, mo_fR21, mo21_a, mo21_t, mo21_n, mo_fR22, mo22_a, mo22_t, mo22_n, mo_fR25, mo25_a, mo25_t, mo25_n, mo_fR26, mo26_a, mo26_t, mo26_n, mo_fR28, mo28_a, mo28_t, mo28_n, mo_fR29, mo29_a, mo29_t, mo29_n, mo_fR30, mo30_a, mo30_t, mo30_n, mo_fR33, mo33_a, mo33_t, mo33_n, mo_fR36, mo36_a, mo36_t, mo36_n, mo_fR37, mo37_a, mo37_t, mo37_n, mo_fR40, mo40_a, mo40_t, mo40_n, m_isLaw hO hm2, hl, decide_true, bi_z, m_isInT e9, e2, e4]
      · refine WC_of (fun q hq => ?_) (fun _ _ => rfl) hC2
        rw [g9 q (by omega) (by omega), cpy_row (by omega), up_row (by omega)]
      · refine WM_act hM2 g8 ?_ (fun q h1 h2 h3 h4 => ?_) (fun k' h1 h2 h3 => ?_) (fun k' h1 => ?_)
        · have := hM3.2.1
          unfold MP at *; rw [g10 24 (by omega), g9 191 (by omega) (by omega), cpy_row (by omega), cpy_row (by omega)]; exact this
        · rw [g9 q (by omega) (by omega), cpy_row (by omega), up_row (by omega)]
        · rw [g10 k' (by omega), cpy_row (by omega), up_ofk (by omega)]
        · rw [g11 k' (by omega), cpy_row (by omega), up_row (by omega)]
    · refine Step_q (x := n1) (v := i32 0) ⟨hC, hM, hI⟩ ?_ ?_
      · unfold fX10_odds
        simp (disch := first | assumption | omega | rfl) only [x0_k, x0_fI, x0_fL, x0_pI, x0_pL, x0_z0, x0_z1, x0_fR0, x0_fR1, x0_fR2, x0_fR3, x0_fR4, x0_fR5, x0_fR6, x0_fR7, x0_fR8, x0_fR9, x0_fR10, x0_fR11, x0_fR12, x0_fR13, x013_a, x013_t, x013_n, x0_fR15, x0_fR16, x0_fR17, x0_fR18, x018_a, x018_t, x018_n, s4_k, s4_fI, s4_fL, s4_pI, s4_pL, s4_z0, s4_z1, s4_fR1, s41_a, s41_t, s41_n, s4_fR2, s42_a, s42_t, s42_n, s4_fR3, s43_a, s43_t, s43_n, s4_fR5, s45_a, s45_t, s45_n, s4_fR7, s47_a, s47_t, s47_n, s4_fR8, s48_a, s48_t, s48_n, s4_fR10, s410_a, s410_t, s410_n, s4_fR11, s411_a, s411_t, s411_n, s4_fR12, s412_a, s412_t, s412_n, s4_fR13, s413_a, s413_t, s413_n, i_lit, i_n1, bd_s, eq_self, if_true, c_hasLaw hO hs, hl, decide_true, bi_z, reduceCtorEq, ↓reduceIte]
        rcases hv with hv | ⟨hv, hv2⟩
        · rw [if_pos hv]
        · rw [if_neg hv, if_neg hv2]
      · unfold fX11_odds
        simp (disch := first | assumption | omega | rfl) only [i_rem, i_pred, i_addn1, i_lit, i_n1, i_add, i_mul, i_sub, i_le, i_lt, i_eq, i_ne1, n1_ne, n1_lt, n1_le, i_lt1, i_le1, bd_s, nar_bi, nar_0, nar_1, if_pos, if_neg, ↓reduceIte, reduceCtorEq, eq_self, if_true, if_false, not_true_eq_false, not_false_eq_true, mo_k, mo_fI, mo_fL, mo_pI, mo_pL, mo_z0, mo_z1, mo_fR1, mo1_a, mo1_t, mo1_n, mo_fR14, mo14_a, mo14_t, mo14_n, mo_fR15, mo15_a, mo15_t, mo15_n, mo_fR16, mo16_a, mo16_t, mo16_n, mo_fR17, mo17_a, mo17_t, mo17_n, mo_fR18, mo18_a, mo18_t, mo18_n, mo_fR19, mo19_a, mo19_t, mo19_n, mo_fR20, mo20_a, mo20_t, mo20_n, mo_fR21, mo21_a, mo21_t, mo21_n, mo_fR22, mo22_a, mo22_t, mo22_n, mo_fR25, mo25_a, mo25_t, mo25_n, mo_fR26, mo26_a, mo26_t, mo26_n, mo_fR28, mo28_a, mo28_t, mo28_n, mo_fR29, mo29_a, mo29_t, mo29_n, mo_fR30, mo30_a, mo30_t, mo30_n, mo_fR33, mo33_a, mo33_t, mo33_n, mo_fR36, mo36_a, mo36_t, mo36_n, mo_fR37, mo37_a, mo37_t, mo37_n, mo_fR40, mo40_a, mo40_t, mo40_n, m_isLaw hO hm, hl, decide_true, bi_z, m_isInF e9]
  · refine Step_q (x := n1) (v := i32 0) ⟨hC, hM, hI⟩ ?_ ?_
    · unfold fX10_odds
      simp (disch := first | assumption | omega | rfl) only [i_rem, i_pred, i_addn1, i_lit, i_n1, i_add, i_mul, i_sub, i_le, i_lt, i_eq, i_ne1, n1_ne, n1_lt, n1_le, i_lt1, i_le1, bd_s, nar_bi, nar_0, nar_1, if_pos, if_neg, ↓reduceIte, reduceCtorEq, eq_self, if_true, if_false, not_true_eq_false, not_false_eq_true, x0_k, x0_fI, x0_fL, x0_pI, x0_pL, x0_z0, x0_z1, x0_fR0, x0_fR1, x0_fR2, x0_fR3, x0_fR4, x0_fR5, x0_fR6, x0_fR7, x0_fR8, x0_fR9, x0_fR10, x0_fR11, x0_fR12, x0_fR13, x013_a, x013_t, x013_n, x0_fR15, x0_fR16, x0_fR17, x0_fR18, x018_a, x018_t, x018_n, s4_k, s4_fI, s4_fL, s4_pI, s4_pL, s4_z0, s4_z1, s4_fR1, s41_a, s41_t, s41_n, s4_fR2, s42_a, s42_t, s42_n, s4_fR3, s43_a, s43_t, s43_n, s4_fR5, s45_a, s45_t, s45_n, s4_fR7, s47_a, s47_t, s47_n, s4_fR8, s48_a, s48_t, s48_n, s4_fR10, s410_a, s410_t, s410_n, s4_fR11, s411_a, s411_t, s411_n, s4_fR12, s412_a, s412_t, s412_n, s4_fR13, s413_a, s413_t, s413_n, be_k, be_fI, be_fL, be_pI, be_pL, be_z0, be_z1, be_fR0, be_fR1, be1_a, be1_t, be1_n, be_fR2, be2_a, be2_t, be2_n, be_fR3, be3_a, be3_t, be3_n, be_fR4, be4_a, be4_t, be4_n, be_fR5, be5_a, be5_t, be5_n, be_fR6, be6_a, be6_t, be6_n, be_fR7, be7_a, be7_t, be7_n, c_hasLaw_n hs hu]
    · unfold fX11_odds
      simp (disch := first | assumption | omega | rfl) only [i_rem, i_pred, i_addn1, i_lit, i_n1, i_add, i_mul, i_sub, i_le, i_lt, i_eq, i_ne1, n1_ne, n1_lt, n1_le, i_lt1, i_le1, bd_s, nar_bi, nar_0, nar_1, if_pos, if_neg, ↓reduceIte, reduceCtorEq, eq_self, if_true, if_false, not_true_eq_false, not_false_eq_true, mo_k, mo_fI, mo_fL, mo_pI, mo_pL, mo_z0, mo_z1, mo_fR1, mo1_a, mo1_t, mo1_n, mo_fR14, mo14_a, mo14_t, mo14_n, mo_fR15, mo15_a, mo15_t, mo15_n, mo_fR16, mo16_a, mo16_t, mo16_n, mo_fR17, mo17_a, mo17_t, mo17_n, mo_fR18, mo18_a, mo18_t, mo18_n, mo_fR19, mo19_a, mo19_t, mo19_n, mo_fR20, mo20_a, mo20_t, mo20_n, mo_fR21, mo21_a, mo21_t, mo21_n, mo_fR22, mo22_a, mo22_t, mo22_n, mo_fR25, mo25_a, mo25_t, mo25_n, mo_fR26, mo26_a, mo26_t, mo26_n, mo_fR28, mo28_a, mo28_t, mo28_n, mo_fR29, mo29_a, mo29_t, mo29_n, mo_fR30, mo30_a, mo30_t, mo30_n, mo_fR33, mo33_a, mo33_t, mo33_n, mo_fR36, mo36_a, mo36_t, mo36_n, mo_fR37, mo37_a, mo37_t, mo37_n, mo_fR40, mo40_a, mo40_t, mo40_n, m_isLaw_n hO hm hu]
end
