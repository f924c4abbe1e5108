section
variable {A : Abs} {G : Nat → Option Abs} {s n : Nat} {P : Nat → Nat → Int32} {T : Nat → Nat} {f : Int32} {E : Ans} {I J : Nat → Nat → Int32} {L K : Nat → Nat → Int64} {r : Bool} {N : Nat}
theorem MNm_of {H : Nat → Nat} {W : Nat → List Nat} (h : MH (I 188) 0 H) (h2 : NM (L 193) 0 H W) : MNm H W I L := by
  have a := h.1
  refine ⟨a 0 (by omega), a 1 (by omega), a 2 (by omega), fun b hb => ?_, fun b hb => ?_, fun b hb => ?_⟩
  · have := h2.1 b hb; rwa [Nat.zero_add] at this
  · have := h2.2.1 b hb; rwa [Nat.zero_add] at this
  · have := h2.2.2 b hb; rwa [Nat.zero_add] at this
theorem q_book (hN : 1200 < N) (h : Ok I L) {v : Int32} : Step2 (fX10_book N 0 v) (fX11_book N 186 v) I L r := by
  obtain ⟨⟨H, W, B, D⟩, G, s, P, n, T, f, E, hC, hM, hI⟩ := h
  have hO : hOk H := hI.1.1
  have hB : bOk H B := hI.1.2.2
  have hs : RS 4 H I := hC.1.1
  have hb : BR 26 B I := hC.1.2.2.1
  have hm : MR H B (up I 186 0 (i32 0)) := WM_R (WM_t hM)
  have ha : isBe 26 = true := rfl
  have o0 := hO.1; have o1 := hO.2.1; have o2 := hO.2.2.1; have o3 := hO.2.2.2.1; have o4 := hO.2.2.2.2.1; have o5 := hO.2.2.2.2.2.1
  rcases i_in v (n := 2) (by omega) with ⟨k, hk, rfl⟩ | hv
  · obtain ⟨lives, hlv⟩ : ∃ b, i32 k = bi b := by
      obtain rfl | rfl : k = 0 ∨ k = 1 := by omega
      · exact ⟨false, rfl⟩
      · exact ⟨true, rfl⟩
    rw [hlv]
    have hn := hI.1.2.1
    have hw : NS 4 H W L := hC.1.2.1
    have ct := hC.2.2.2.1
    have hT := hI.2.2.2
    have n9 := ct.2.1
    have bk : ∀ M, fX10_book N 0 (bi lives) M = fX10_book_J13 N 0 (bi lives) M := fun M => by
      unfold fX10_book
      cases lives with
      | false => rw [if_pos (show bi false = 0 from rfl)]
      | true => rw [if_neg (show ¬ bi true = 0 by decide), if_pos (show bi true = 1 from rfl)]
    cases hr : bkR n T H W with
    | inl e =>
      obtain ⟨J1, K1, e1, a1, a2, a3, a4, a5⟩ := c_bookF (N := N) (r := r) (u := bi lives) hN hO hn hs hw ct hT hr
      have mt : MT n T f J1 := by
        have := hM.2.2.2.1
        unfold MT at *; rw [a3 186 (by omega) (by omega), a3 187 (by omega) (by omega)]; exact this
      have mn : MNm H W J1 K1 := MNm_of (by rw [a3 188 (by omega) (by omega)]; exact hM.1.1) (by rw [a5 193 (by omega)]; exact hM.1.2.1)
      obtain ⟨J2, K2, e2, b1, b2, b3, b4, b5⟩ := m_bookF (N := N) (r := r) (lives := lives) hN hO hn mn mt n9 hT hr
      have fr : ∀ z, z ≠ 1 → z ≠ 186 → z ≠ 203 → (z < 108 ∨ 114 ≤ z) → J2 z = I z := fun z z1 z2 z3 z4 => by rw [b3 z z2 z3, a3 z z1 z4]
      have frL : ∀ z, z ≠ 1 → z ≠ 186 → K2 z = L z := fun z z1 z2 => by rw [b5 z z2, a5 z z1]
      have r1 : J2 1 = J1 1 := b3 1 (by omega) (by omega)
      refine ⟨-(i32 2) - i32 e.2, J1, K1, r, J2, K2, ?_, e2, (H, W, B, D), G, s, P, 0, T, i32 e.1, E, ?_, ?_, hI.1, hI.2.1, hI.2.2.1, fun k hk => absurd hk (Nat.not_lt_zero _)⟩
      · rw [bk]; exact e1
      · obtain ⟨⟨h1, h2, h3, h4, h9⟩, h5, h6, h7, h8⟩ := hC
        refine ⟨⟨RS_of (fun q z1 z2 => fr q (by omega) (by omega) (by omega) (by omega)) h1, NS_of (fun q z1 z2 => frL q (by omega) (by omega)) h2, BR_of (fun q z1 z2 => fr q (by omega) (by omega) (by omega) (by omega)) h3, SS_of (fun q z1 z2 => fr q (by omega) (by omega) (by omega) (by omega)) h4, LT_of (fr _ (by omega) (by omega) (by omega) (by omega)) h9⟩, PR_of (fun q z1 z2 => fr q (by omega) (by omega) (by omega) (by omega)) h5, fun k hk => CG_of hk (fun q z1 z2 => fr q (by omega) (by omega) (by omega) (by omega)) (fun q z1 z2 => frL q (by omega) (by omega)) (h6 k hk), ⟨by rw [r1]; exact a1, by omega, by rw [r1]; exact a2, fun k hk => absurd hk (Nat.not_lt_zero _), fun k hk => by rw [frL 3 (by omega) (by omega)]; exact h7.2.2.2.2 k hk⟩, ?_⟩
        obtain ⟨c1, c2, c3, c4, c5, c6⟩ := h8
        refine ⟨fun k hk => by rw [fr 127 (by omega) (by omega) (by omega) (by omega)]; exact c1 k hk, fun k hk => by rw [fr 131 (by omega) (by omega) (by omega) (by omega)]; exact c2 k hk, fun k hk => by rw [b3 108 (by omega) (by omega), a4 _ (by omega)]; exact c3 k hk, by rw [fr 0 (by omega) (by omega) (by omega) (by omega)]; exact c4, c5, fun k hk => by rw [fr 133 (by omega) (by omega) (by omega) (by omega)]; exact c6 k hk⟩
      · refine WM_tp (fun q hq => fr q (by omega) (by omega) (by omega) (by omega)) (fun k hk => by rw [b4 k (by omega) (by omega), a3 186 (by omega) (by omega)]) (frL 193 (by omega) (by omega)) (frL 195 (by omega) (by omega)) ⟨b1, b2, fun k hk => absurd hk (Nat.not_lt_zero _)⟩ hM
    | inr x =>
      obtain ⟨c, X⟩ := x
      obtain ⟨hc, hX, J1, K1, e1, a1, a2, a3, a4, a5, a6, a7⟩ := c_bookS (N := N) (r := r) (lives := lives) hN hO hn hB hs hw hb hC.2.1 ct hT hr
      have mt : MT n T f J1 := by
        have := hM.2.2.2.1
        unfold MT at *; rw [a3 186 (by omega) (by omega), a3 187 (by omega) (by omega)]; exact this
      have mn : MNm H W J1 K1 := MNm_of (by rw [a3 188 (by omega) (by omega)]; exact hM.1.1) (by rw [a5 193 (by omega)]; exact hM.1.2.1)
      have mr : MR H B J1 := by unfold MR; rw [a3 188 (by omega) (by omega)]; exact hm
      have mp : MP s P J1 := by
        have := hM.2.1
        unfold MP at *; rw [a3 186 (by omega) (by omega), a3 191 (by omega) (by omega)]; exact this
      obtain ⟨J2, K2, e2, b1, b2, b3, b4, b5, b6, b7, b8, b9, b10⟩ := m_bookS (N := N) (r := r) (lives := lives) hN hO hn hB hc hX mn mr mp mt n9 hT hr
      have lok := lvL_ok hO c 0 B (fun j hj => hX j (by omega)) hB
      generalize hy : lvL H X c 0 B = y at *
      have fr : ∀ z, z < 186 → J2 z = J1 z := fun z z1 => b5 z (by omega) (by omega) (by omega) (by omega) (by omega) (by omega)
      have fr2 : ∀ z, z < 186 → z ≠ 1 → (z < 26 ∨ 114 ≤ z) → J2 z = I z := fun z z1 z2 z3 => by rw [fr z z1, a3 z z2 z3]
      have frL : ∀ z, z ≠ 1 → z ≠ 186 → K2 z = L z := fun z z1 z2 => by rw [b8 z z2, a5 z z1]
      have fm : ∀ z, 187 ≤ z → z ≠ 188 → z ≠ 191 → z ≠ 192 → z ≠ 203 → z ≠ 204 → J2 z = I z := fun z z0 z1 z2 z3 z4 z5 => by rw [b5 z (by omega) z1 z2 z3 z4 z5, a3 z (by omega) (by omega)]
      have fm6 : ∀ k, 14 ≤ k → k ≠ 24 → k ≠ 38 → k ≠ 39 → J2 186 k = I 186 k := fun k z1 z2 z3 z4 => by rw [b6 k z1 z2 z3 z4, a3 186 (by omega) (by omega)]
      refine ⟨bkY y, J1, K1, r, J2, K2, ?_, e2, (H, W, if lives = true ∧ 0 < y.2.1 then y.2.2 else B, D), G, if lives = true ∧ 0 < y.2.1 then pushN s else s, if lives = true ∧ 0 < y.2.1 then pushP s P B else P, 0, T, i32 0, (E.1, E.2.1, bkE y, E.2.2.2), ?_, ?_, ⟨hO, hn, ?_⟩, hI.2.1, ?_, fun k hk => absurd hk (Nat.not_lt_zero _)⟩
      · rw [bk]; exact e1
      · obtain ⟨⟨h1, h2, h3, h4, h9⟩, h5, h6, h7, h8⟩ := hC
        refine ⟨⟨RS_of (fun q z1 z2 => fr2 q (by omega) (by omega) (by omega)) h1, NS_of (fun q z1 z2 => frL q (by omega) (by omega)) h2, BR_of (fun q z1 z2 => fr q (by omega)) a6, SS_of (fun q z1 z2 => fr2 q (by omega) (by omega) (by omega)) h4, LT_of (fr2 _ (by omega) (by omega) (by omega)) h9⟩, PR_of (fun q z1 z2 => fr q (by omega)) a7, fun k hk => CG_of hk (fun q z1 z2 => fr2 q (by omega) (by omega) (by omega)) (fun q z1 z2 => frL q (by omega) (by omega)) (h6 k hk), ⟨by rw [fr 1 (by omega)]; exact a1, by omega, by rw [fr 1 (by omega)]; exact a2, fun k hk => absurd hk (Nat.not_lt_zero _), fun k hk => by rw [frL 3 (by omega) (by omega)]; exact h7.2.2.2.2 k hk⟩, ?_⟩
        obtain ⟨c1, c2, c3, c4, c5, c6⟩ := h8
        refine ⟨fun k hk => by rw [fr2 127 (by omega) (by omega) (by omega)]; exact c1 k hk, fun k hk => by rw [fr2 131 (by omega) (by omega) (by omega)]; exact c2 k hk, fun k hk => by rw [fr 108 (by omega)]; exact a4 k hk, by rw [fr2 0 (by omega) (by omega) (by omega)]; exact c4, c5, fun k hk => by rw [fr2 133 (by omega) (by omega) (by omega)]; exact c6 k hk⟩
      · obtain ⟨⟨h1, h2, h3, h4⟩, h5, h6, h7, h8⟩ := hM
        refine ⟨⟨b9.1, by rw [frL 193 (by omega) (by omega)]; exact h2, b9.2, SM_of (fun k hk => ?_) h4⟩, b10, fun k hk => MG_of (fm _ (by omega) (by omega) (by omega) (by omega) (by omega) (by omega)) (fm _ (by omega) (by omega) (by omega) (by omega) (by omega) (by omega)) (frL 195 (by omega) (by omega)) (h6 k hk), ⟨b1, b2, fun k hk => absurd hk (Nat.not_lt_zero _)⟩, ?_⟩
        · rw [b7 _ (by omega), a3 188 (by omega) (by omega)]
        · obtain ⟨c1, c2, c3, c4, c5⟩ := h8
          refine ⟨?_, ?_, Or.inr ⟨b3, b4⟩, ?_, ?_⟩
          · rw [fm6 27 (by omega) (by omega) (by omega) (by omega), fm 198 (by omega) (by omega) (by omega) (by omega) (by omega) (by omega)]; exact c1
          · rw [fm6 32 (by omega) (by omega) (by omega) (by omega), fm6 31 (by omega) (by omega) (by omega) (by omega), fm 200 (by omega) (by omega) (by omega) (by omega) (by omega) (by omega)]; exact c2
          · rw [fm6 34 (by omega) (by omega) (by omega) (by omega)]; exact c4
          · rw [fm 202 (by omega) (by omega) (by omega) (by omega) (by omega) (by omega)]; exact c5
      · dsimp only
        split
        · exact lok.1
        · exact hB
      · dsimp only
        split
        · exact bOk_push hI.2.2.1 (PR_8 hC.2.1) hB
        · exact hI.2.2.1
  · have e9 := in_out (n := 2) (by omega) (by omega) hv
    refine Step_q (x := -(i32 1000)) (v := i32 0) ⟨hC, hM, hI⟩ ?_ ?_
    · have v0 : ¬ v = 0 := by
        rintro rfl
        rcases hv with hv | ⟨_, hv⟩
        · exact absurd hv (by decide)
        · exact absurd hv (by decide)
      have v1 : ¬ v = 1 := by
        rintro rfl
        rcases hv with hv | ⟨_, hv⟩
        · exact absurd hv (by decide)
        · exact absurd hv (by decide)
      unfold fX10_book
      rw [if_neg v0, if_neg v1]; rfl
    · have kf : bi false = i32 0 := rfl
      unfold fX11_book
      repeat (first | (with_reducible apply bd_eq; (focus (simp (disch := first | assumption | omega | rfl) only [i_rem, i_pred, i_addn1, i_lit, i_n1, i_add, i_mul, i_sub, i_le, i_lt, i_eq, i_ne1, n1_ne, n1_lt, n1_le, i_lt1, i_le1, bd_s, nar_bi, nar_0, nar_1, if_pos, if_neg, ↓reduceIte, reduceCtorEq, eq_self, if_true, if_false, not_true_eq_false, not_false_eq_true, mo_k, mo_fI, mo_fL, mo_pI, mo_pL, mo_z0, mo_z1, mo_fR1, mo1_a, mo1_t, mo1_n, mo_fR14, mo14_a, mo14_t, mo14_n, mo_fR15, mo15_a, mo15_t, mo15_n, mo_fR16, mo16_a, mo16_t, mo16_n, mo_fR17, mo17_a, mo17_t, mo17_n, mo_fR18, mo18_a, mo18_t, mo18_n, mo_fR19, mo19_a, mo19_t, mo19_n, mo_fR20, mo20_a, mo20_t, mo20_n, mo_fR21, mo21_a, mo21_t, mo21_n, mo_fR22, mo22_a, mo22_t, mo22_n, mo_fR25, mo25_a, mo25_t, mo25_n, mo_fR26, mo26_a, mo26_t, mo26_n, mo_fR28, mo28_a, mo28_t, mo28_n, mo_fR29, mo29_a, mo29_t, mo29_n, mo_fR30, mo30_a, mo30_t, mo30_n, mo_fR33, mo33_a, mo33_t, mo33_n, mo_fR36, mo36_a, mo36_t, mo36_n, mo_fR37, mo37_a, mo37_t, mo37_n, mo_fR40, mo40_a, mo40_t, mo40_n, m_isInF e9, kf]; first | done | (with_reducible rfl; done))); try dsimp only) | (with_reducible apply it_p; (focus (first | assumption | (simp (disch := first | assumption | omega | rfl) only [i_rem, i_pred, i_addn1, i_lit, i_n1, i_add, i_mul, i_sub, i_le, i_lt, i_eq, i_ne1, n1_ne, n1_lt, n1_le, i_lt1, i_le1, bd_s, nar_bi, nar_0, nar_1, if_pos, if_neg, ↓reduceIte, reduceCtorEq, eq_self, if_true, if_false, not_true_eq_false, not_false_eq_true, mo_k, mo_fI, mo_fL, mo_pI, mo_pL, mo_z0, mo_z1, mo_fR1, mo1_a, mo1_t, mo1_n, mo_fR14, mo14_a, mo14_t, mo14_n, mo_fR15, mo15_a, mo15_t, mo15_n, mo_fR16, mo16_a, mo16_t, mo16_n, mo_fR17, mo17_a, mo17_t, mo17_n, mo_fR18, mo18_a, mo18_t, mo18_n, mo_fR19, mo19_a, mo19_t, mo19_n, mo_fR20, mo20_a, mo20_t, mo20_n, mo_fR21, mo21_a, mo21_t, mo21_n, mo_fR22, mo22_a, mo22_t, mo22_n, mo_fR25, mo25_a, mo25_t, mo25_n, mo_fR26, mo26_a, mo26_t, mo26_n, mo_fR28, mo28_a, mo28_t, mo28_n, mo_fR29, mo29_a, mo29_t, mo29_n, mo_fR30, mo30_a, mo30_t, mo30_n, mo_fR33, mo33_a, mo33_t, mo33_n, mo_fR36, mo36_a, mo36_t, mo36_n, mo_fR37, mo37_a, mo37_t, mo37_n, mo_fR40, mo40_a, mo40_t, mo40_n, m_isInF e9, kf]; first | done | omega)))) | (with_reducible apply it_n; (focus (first | assumption | (simp (disch := first | assumption | omega | rfl) only [i_rem, i_pred, i_addn1, i_lit, i_n1, i_add, i_mul, i_sub, i_le, i_lt, i_eq, i_ne1, n1_ne, n1_lt, n1_le, i_lt1, i_le1, bd_s, nar_bi, nar_0, nar_1, if_pos, if_neg, ↓reduceIte, reduceCtorEq, eq_self, if_true, if_false, not_true_eq_false, not_false_eq_true, mo_k, mo_fI, mo_fL, mo_pI, mo_pL, mo_z0, mo_z1, mo_fR1, mo1_a, mo1_t, mo1_n, mo_fR14, mo14_a, mo14_t, mo14_n, mo_fR15, mo15_a, mo15_t, mo15_n, mo_fR16, mo16_a, mo16_t, mo16_n, mo_fR17, mo17_a, mo17_t, mo17_n, mo_fR18, mo18_a, mo18_t, mo18_n, mo_fR19, mo19_a, mo19_t, mo19_n, mo_fR20, mo20_a, mo20_t, mo20_n, mo_fR21, mo21_a, mo21_t, mo21_n, mo_fR22, mo22_a, mo22_t, mo22_n, mo_fR25, mo25_a, mo25_t, mo25_n, mo_fR26, mo26_a, mo26_t, mo26_n, mo_fR28, mo28_a, mo28_t, mo28_n, mo_fR29, mo29_a, mo29_t, mo29_n, mo_fR30, mo30_a, mo30_t, mo30_n, mo_fR33, mo33_a, mo33_t, mo33_n, mo_fR36, mo36_a, mo36_t, mo36_n, mo_fR37, mo37_a, mo37_t, mo37_n, mo_fR40, mo40_a, mo40_t, mo40_n, m_isInF e9, kf]; first | done | omega)))))
      all_goals rfl
end
