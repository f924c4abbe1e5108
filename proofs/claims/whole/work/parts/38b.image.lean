section
variable {H : Nat → Nat} {W : Nat → List Nat} {B : Nat → Int32} {D : Option Say} {I : Nat → Nat → Int32} {L : Nat → Nat → Int64} {r : Bool} {N a : Nat}
theorem im_sh {i : Nat} (hi : i < 2) : aR (mk I L r) 25 134 (i32 i) = some (138 + 24 * i) := by
  refine mk_aR (n := 2) (by decide +kernel) (by decide +kernel) hi (by omega) ?_
  obtain rfl | rfl : i = 0 ∨ i = 1 := by omega
  all_goals (cases r <;> decide +kernel)
theorem im_be {i : Nat} (hi : i < 2) : aR (mk I L r) 23 135 (i32 i) = some (149 + 24 * i) := by
  refine mk_aR (n := 2) (by decide +kernel) (by decide +kernel) hi (by omega) ?_
  obtain rfl | rfl : i = 0 ∨ i = 1 := by omega
  all_goals (cases r <;> decide +kernel)
theorem im_se {i : Nat} (hi : i < 2) : aR (mk I L r) 24 136 (i32 i) = some (157 + 24 * i) := by
  refine mk_aR (n := 2) (by decide +kernel) (by decide +kernel) hi (by omega) ?_
  obtain rfl | rfl : i = 0 ∨ i = 1 := by omega
  all_goals (cases r <;> decide +kernel)
theorem im_isSh {i : Nat} (hi : i < 2) : isSh (138 + 24 * i) = true := by
  obtain rfl | rfl : i = 0 ∨ i = 1 := by omega
  all_goals rfl
theorem im_isBe {i : Nat} (hi : i < 2) : isBe (149 + 24 * i) = true := by
  obtain rfl | rfl : i = 0 ∨ i = 1 := by omega
  all_goals rfl
theorem im_isSe {i : Nat} (hi : i < 2) : isSe (157 + 24 * i) = true := by
  obtain rfl | rfl : i = 0 ∨ i = 1 := by omega
  all_goals rfl
theorem m_img1 {k : Nat} (hk : k < 2) (hN : 1200 < N) : fX11_image_L18 N 186 (i32 k) N (i32 0) (mk I L r) = some (mk (cpy I 188 0 190 (441 * k) 441) L r) := by
  obtain ⟨M, e, h1⟩ := lp_st (F := fun m u M => fX11_image_L18 N 186 (i32 k) m u M) (m := 441) (fun j M => M = mk (cpy I 188 0 190 (441 * k) j) L r) (fun M => M) (fun m j M hj hM => by
    subst hM
    refine ⟨_, ?_, rfl⟩
    have := cpy_up (I := I) (s := 188) (so := 0) (d := 190) (e := 441 * k) (n := j)
    rw [Nat.zero_add] at this
    simp (disch := first | assumption | omega | rfl) only [i_rem, i_pred, i_addn1, i_lit, i_n1, i_add, i_mul, i_sub, i_le, i_lt, i_eq, i_ne1, n1_ne, n1_lt, n1_le, i_lt1, i_le1, bd_s, nar_bi, nar_0, nar_1, if_pos, if_neg, ↓reduceIte, reduceCtorEq, eq_self, if_true, if_false, not_true_eq_false, not_false_eq_true, mo_k, mo_fI, mo_fL, mo_pI, mo_pL, mo_z0, mo_z1, mo_fR1, mo1_a, mo1_t, mo1_n, mo_fR14, mo14_a, mo14_t, mo14_n, mo_fR15, mo15_a, mo15_t, mo15_n, mo_fR16, mo16_a, mo16_t, mo16_n, mo_fR17, mo17_a, mo17_t, mo17_n, mo_fR18, mo18_a, mo18_t, mo18_n, mo_fR19, mo19_a, mo19_t, mo19_n, mo_fR20, mo20_a, mo20_t, mo20_n, mo_fR21, mo21_a, mo21_t, mo21_n, mo_fR22, mo22_a, mo22_t, mo22_n, mo_fR25, mo25_a, mo25_t, mo25_n, mo_fR26, mo26_a, mo26_t, mo26_n, mo_fR28, mo28_a, mo28_t, mo28_n, mo_fR29, mo29_a, mo29_t, mo29_n, mo_fR30, mo30_a, mo30_t, mo30_n, mo_fR33, mo33_a, mo33_t, mo33_n, mo_fR36, mo36_a, mo36_t, mo36_n, mo_fR37, mo37_a, mo37_t, mo37_n, mo_fR40, mo40_a, mo40_t, mo40_n, fX11_image_L18, cpy_off, this]) (fun m M hM => by
    simp (disch := first | assumption | omega | rfl) only [i_rem, i_pred, i_addn1, i_lit, i_n1, i_add, i_mul, i_sub, i_le, i_lt, i_eq, i_ne1, n1_ne, n1_lt, n1_le, i_lt1, i_le1, bd_s, nar_bi, nar_0, nar_1, if_pos, if_neg, ↓reduceIte, reduceCtorEq, eq_self, if_true, if_false, not_true_eq_false, not_false_eq_true, mo_k, mo_fI, mo_fL, mo_pI, mo_pL, mo_z0, mo_z1, mo_fR1, mo1_a, mo1_t, mo1_n, mo_fR14, mo14_a, mo14_t, mo14_n, mo_fR15, mo15_a, mo15_t, mo15_n, mo_fR16, mo16_a, mo16_t, mo16_n, mo_fR17, mo17_a, mo17_t, mo17_n, mo_fR18, mo18_a, mo18_t, mo18_n, mo_fR19, mo19_a, mo19_t, mo19_n, mo_fR20, mo20_a, mo20_t, mo20_n, mo_fR21, mo21_a, mo21_t, mo21_n, mo_fR22, mo22_a, mo22_t, mo22_n, mo_fR25, mo25_a, mo25_t, mo25_n, mo_fR26, mo26_a, mo26_t, mo26_n, mo_fR28, mo28_a, mo28_t, mo28_n, mo_fR29, mo29_a, mo29_t, mo29_n, mo_fR30, mo30_a, mo30_t, mo30_n, mo_fR33, mo33_a, mo33_t, mo33_n, mo_fR36, mo36_a, mo36_t, mo36_n, mo_fR37, mo37_a, mo37_t, mo37_n, mo_fR40, mo40_a, mo40_t, mo40_n, fX11_image_L18]) (n := N) (by omega) (s := mk I L r) (by rw [cpy_0])
  rw [e, h1]
theorem m_img2 {k : Nat} (hk : k < 2) (hN : 1200 < N) : fX11_image_L51 N 186 (i32 k) N (i32 0) (mk I L r) = some (i32 1, mk (up I 196 k (i32 1)) (cpyL L 193 0 195 (16 * k) 16) r) := by
  obtain ⟨M, e, h1⟩ := lp_st (F := fun m u K => fX11_image_L51 N 186 (i32 k) m u (mk I K r)) (m := 16) (fun j K => K = cpyL L 193 0 195 (16 * k) j) (fun K => (i32 1, mk (up I 196 k (i32 1)) K r)) (fun m j K hj hK => by
    subst hK
    refine ⟨_, ?_, rfl⟩
    have := cpyL_up (I := L) (s := 193) (so := 0) (d := 195) (e := 16 * k) (n := j)
    rw [Nat.zero_add] at this
    simp (disch := first | assumption | omega | rfl) only [i_rem, i_pred, i_addn1, i_lit, i_n1, i_add, i_mul, i_sub, i_le, i_lt, i_eq, i_ne1, n1_ne, n1_lt, n1_le, i_lt1, i_le1, bd_s, nar_bi, nar_0, nar_1, if_pos, if_neg, ↓reduceIte, reduceCtorEq, eq_self, if_true, if_false, not_true_eq_false, not_false_eq_true, mo_k, mo_fI, mo_fL, mo_pI, mo_pL, mo_z0, mo_z1, mo_fR1, mo1_a, mo1_t, mo1_n, mo_fR14, mo14_a, mo14_t, mo14_n, mo_fR15, mo15_a, mo15_t, mo15_n, mo_fR16, mo16_a, mo16_t, mo16_n, mo_fR17, mo17_a, mo17_t, mo17_n, mo_fR18, mo18_a, mo18_t, mo18_n, mo_fR19, mo19_a, mo19_t, mo19_n, mo_fR20, mo20_a, mo20_t, mo20_n, mo_fR21, mo21_a, mo21_t, mo21_n, mo_fR22, mo22_a, mo22_t, mo22_n, mo_fR25, mo25_a, mo25_t, mo25_n, mo_fR26, mo26_a, mo26_t, mo26_n, mo_fR28, mo28_a, mo28_t, mo28_n, mo_fR29, mo29_a, mo29_t, mo29_n, mo_fR30, mo30_a, mo30_t, mo30_n, mo_fR33, mo33_a, mo33_t, mo33_n, mo_fR36, mo36_a, mo36_t, mo36_n, mo_fR37, mo37_a, mo37_t, mo37_n, mo_fR40, mo40_a, mo40_t, mo40_n, fX11_image_L51, cpyL_off, this]) (fun m K hK => by
    simp (disch := first | assumption | omega | rfl) only [i_rem, i_pred, i_addn1, i_lit, i_n1, i_add, i_mul, i_sub, i_le, i_lt, i_eq, i_ne1, n1_ne, n1_lt, n1_le, i_lt1, i_le1, bd_s, nar_bi, nar_0, nar_1, if_pos, if_neg, ↓reduceIte, reduceCtorEq, eq_self, if_true, if_false, not_true_eq_false, not_false_eq_true, mo_k, mo_fI, mo_fL, mo_pI, mo_pL, mo_z0, mo_z1, mo_fR1, mo1_a, mo1_t, mo1_n, mo_fR14, mo14_a, mo14_t, mo14_n, mo_fR15, mo15_a, mo15_t, mo15_n, mo_fR16, mo16_a, mo16_t, mo16_n, mo_fR17, mo17_a, mo17_t, mo17_n, mo_fR18, mo18_a, mo18_t, mo18_n, mo_fR19, mo19_a, mo19_t, mo19_n, mo_fR20, mo20_a, mo20_t, mo20_n, mo_fR21, mo21_a, mo21_t, mo21_n, mo_fR22, mo22_a, mo22_t, mo22_n, mo_fR25, mo25_a, mo25_t, mo25_n, mo_fR26, mo26_a, mo26_t, mo26_n, mo_fR28, mo28_a, mo28_t, mo28_n, mo_fR29, mo29_a, mo29_t, mo29_n, mo_fR30, mo30_a, mo30_t, mo30_n, mo_fR33, mo33_a, mo33_t, mo33_n, mo_fR36, mo36_a, mo36_t, mo36_n, mo_fR37, mo37_a, mo37_t, mo37_n, mo_fR40, mo40_a, mo40_t, mo40_n, fX11_image_L51]) (n := N) (by omega) (s := L) (by rw [cpyL_0])
  rw [e, h1]
theorem m_res1 {k : Nat} (hk : k < 2) (hN : 1200 < N) : fX11_restore_L27 N 186 (i32 k) N (i32 0) (mk I L r) = some (mk (cpy I 190 (441 * k) 188 0 441) L r) := by
  obtain ⟨M, e, h1⟩ := lp_st (F := fun m u M => fX11_restore_L27 N 186 (i32 k) m u M) (m := 441) (fun j M => M = mk (cpy I 190 (441 * k) 188 0 j) L r) (fun M => M) (fun m j M hj hM => by
    subst hM
    refine ⟨_, ?_, rfl⟩
    have := cpy_up (I := I) (s := 190) (so := 441 * k) (d := 188) (e := 0) (n := j)
    rw [Nat.zero_add] at this
    simp (disch := first | assumption | omega | rfl) only [i_rem, i_pred, i_addn1, i_lit, i_n1, i_add, i_mul, i_sub, i_le, i_lt, i_eq, i_ne1, n1_ne, n1_lt, n1_le, i_lt1, i_le1, bd_s, nar_bi, nar_0, nar_1, if_pos, if_neg, ↓reduceIte, reduceCtorEq, eq_self, if_true, if_false, not_true_eq_false, not_false_eq_true, mo_k, mo_fI, mo_fL, mo_pI, mo_pL, mo_z0, mo_z1, mo_fR1, mo1_a, mo1_t, mo1_n, mo_fR14, mo14_a, mo14_t, mo14_n, mo_fR15, mo15_a, mo15_t, mo15_n, mo_fR16, mo16_a, mo16_t, mo16_n, mo_fR17, mo17_a, mo17_t, mo17_n, mo_fR18, mo18_a, mo18_t, mo18_n, mo_fR19, mo19_a, mo19_t, mo19_n, mo_fR20, mo20_a, mo20_t, mo20_n, mo_fR21, mo21_a, mo21_t, mo21_n, mo_fR22, mo22_a, mo22_t, mo22_n, mo_fR25, mo25_a, mo25_t, mo25_n, mo_fR26, mo26_a, mo26_t, mo26_n, mo_fR28, mo28_a, mo28_t, mo28_n, mo_fR29, mo29_a, mo29_t, mo29_n, mo_fR30, mo30_a, mo30_t, mo30_n, mo_fR33, mo33_a, mo33_t, mo33_n, mo_fR36, mo36_a, mo36_t, mo36_n, mo_fR37, mo37_a, mo37_t, mo37_n, mo_fR40, mo40_a, mo40_t, mo40_n, fX11_restore_L27, cpy_off, this]) (fun m M hM => by
    simp (disch := first | assumption | omega | rfl) only [i_rem, i_pred, i_addn1, i_lit, i_n1, i_add, i_mul, i_sub, i_le, i_lt, i_eq, i_ne1, n1_ne, n1_lt, n1_le, i_lt1, i_le1, bd_s, nar_bi, nar_0, nar_1, if_pos, if_neg, ↓reduceIte, reduceCtorEq, eq_self, if_true, if_false, not_true_eq_false, not_false_eq_true, mo_k, mo_fI, mo_fL, mo_pI, mo_pL, mo_z0, mo_z1, mo_fR1, mo1_a, mo1_t, mo1_n, mo_fR14, mo14_a, mo14_t, mo14_n, mo_fR15, mo15_a, mo15_t, mo15_n, mo_fR16, mo16_a, mo16_t, mo16_n, mo_fR17, mo17_a, mo17_t, mo17_n, mo_fR18, mo18_a, mo18_t, mo18_n, mo_fR19, mo19_a, mo19_t, mo19_n, mo_fR20, mo20_a, mo20_t, mo20_n, mo_fR21, mo21_a, mo21_t, mo21_n, mo_fR22, mo22_a, mo22_t, mo22_n, mo_fR25, mo25_a, mo25_t, mo25_n, mo_fR26, mo26_a, mo26_t, mo26_n, mo_fR28, mo28_a, mo28_t, mo28_n, mo_fR29, mo29_a, mo29_t, mo29_n, mo_fR30, mo30_a, mo30_t, mo30_n, mo_fR33, mo33_a, mo33_t, mo33_n, mo_fR36, mo36_a, mo36_t, mo36_n, mo_fR37, mo37_a, mo37_t, mo37_n, mo_fR40, mo40_a, mo40_t, mo40_n, fX11_restore_L27]) (n := N) (by omega) (s := mk I L r) (by rw [cpy_0])
  rw [e, h1]
theorem m_res2 {k : Nat} (hk : k < 2) (hN : 1200 < N) : fX11_restore_L60 N 186 (i32 k) N (i32 0) (mk I L r) = some (mk I (cpyL L 195 (16 * k) 193 0 16) r) := by
  obtain ⟨M, e, h1⟩ := lp_st (F := fun m u K => fX11_restore_L60 N 186 (i32 k) m u (mk I K r)) (m := 16) (fun j K => K = cpyL L 195 (16 * k) 193 0 j) (fun K => mk I K r) (fun m j K hj hK => by
    subst hK
    refine ⟨_, ?_, rfl⟩
    have := cpyL_up (I := L) (s := 195) (so := 16 * k) (d := 193) (e := 0) (n := j)
    rw [Nat.zero_add] at this
    simp (disch := first | assumption | omega | rfl) only [i_rem, i_pred, i_addn1, i_lit, i_n1, i_add, i_mul, i_sub, i_le, i_lt, i_eq, i_ne1, n1_ne, n1_lt, n1_le, i_lt1, i_le1, bd_s, nar_bi, nar_0, nar_1, if_pos, if_neg, ↓reduceIte, reduceCtorEq, eq_self, if_true, if_false, not_true_eq_false, not_false_eq_true, mo_k, mo_fI, mo_fL, mo_pI, mo_pL, mo_z0, mo_z1, mo_fR1, mo1_a, mo1_t, mo1_n, mo_fR14, mo14_a, mo14_t, mo14_n, mo_fR15, mo15_a, mo15_t, mo15_n, mo_fR16, mo16_a, mo16_t, mo16_n, mo_fR17, mo17_a, mo17_t, mo17_n, mo_fR18, mo18_a, mo18_t, mo18_n, mo_fR19, mo19_a, mo19_t, mo19_n, mo_fR20, mo20_a, mo20_t, mo20_n, mo_fR21, mo21_a, mo21_t, mo21_n, mo_fR22, mo22_a, mo22_t, mo22_n, mo_fR25, mo25_a, mo25_t, mo25_n, mo_fR26, mo26_a, mo26_t, mo26_n, mo_fR28, mo28_a, mo28_t, mo28_n, mo_fR29, mo29_a, mo29_t, mo29_n, mo_fR30, mo30_a, mo30_t, mo30_n, mo_fR33, mo33_a, mo33_t, mo33_n, mo_fR36, mo36_a, mo36_t, mo36_n, mo_fR37, mo37_a, mo37_t, mo37_n, mo_fR40, mo40_a, mo40_t, mo40_n, fX11_restore_L60, cpyL_off, this]) (fun m K hK => by
    simp (disch := first | assumption | omega | rfl) only [i_rem, i_pred, i_addn1, i_lit, i_n1, i_add, i_mul, i_sub, i_le, i_lt, i_eq, i_ne1, n1_ne, n1_lt, n1_le, i_lt1, i_le1, bd_s, nar_bi, nar_0, nar_1, if_pos, if_neg, ↓reduceIte, reduceCtorEq, eq_self, if_true, if_false, not_true_eq_false, not_false_eq_true, mo_k, mo_fI, mo_fL, mo_pI, mo_pL, mo_z0, mo_z1, mo_fR1, mo1_a, mo1_t, mo1_n, mo_fR14, mo14_a, mo14_t, mo14_n, mo_fR15, mo15_a, mo15_t, mo15_n, mo_fR16, mo16_a, mo16_t, mo16_n, mo_fR17, mo17_a, mo17_t, mo17_n, mo_fR18, mo18_a, mo18_t, mo18_n, mo_fR19, mo19_a, mo19_t, mo19_n, mo_fR20, mo20_a, mo20_t, mo20_n, mo_fR21, mo21_a, mo21_t, mo21_n, mo_fR22, mo22_a, mo22_t, mo22_n, mo_fR25, mo25_a, mo25_t, mo25_n, mo_fR26, mo26_a, mo26_t, mo26_n, mo_fR28, mo28_a, mo28_t, mo28_n, mo_fR29, mo29_a, mo29_t, mo29_n, mo_fR30, mo30_a, mo30_t, mo30_n, mo_fR33, mo33_a, mo33_t, mo33_n, mo_fR36, mo36_a, mo36_t, mo36_n, mo_fR37, mo37_a, mo37_t, mo37_n, mo_fR40, mo40_a, mo40_t, mo40_n, fX11_restore_L60]) (n := N) (by omega) (s := L) (by rw [cpyL_0])
  rw [e, h1]
theorem MA_of {A : Abs} (hO : hOk A.1) {g g' : Nat → Int32} {h h' : Nat → Int64} {o o' p p' : Nat} (e : ∀ k, k < 441 → g' (o' + k) = g (o + k)) (e2 : ∀ k, k < 16 → h' (p' + k) = h (p + k)) (hA : MA A g o h p) : MA A g' o' h' p' := by
  obtain ⟨h1, h2, h3, h4⟩ := hA
  refine ⟨MH_of hO (fun k hk => e k (by omega)) h1, NM_of hO e2 h2, fun k hk => ?_, SM_of (fun k hk => ?_) h4⟩
  · have := e (35 + k) (by omega)
    rw [← Nat.add_assoc, ← Nat.add_assoc] at this
    rw [this]; exact h3 k hk
  · have := e (199 + k) (by omega)
    rw [← Nat.add_assoc, ← Nat.add_assoc] at this
    exact this
end
section
variable {I : Nat → Nat → Int32} {L : Nat → Nat → Int64} {r : Bool} {N : Nat}
theorem q_image (hN : 1200 < N) (h : Ok I L) {v : Int32} : Step2 (fX10_image N 0 v) (fX11_image N 186 v) I L r := by
  obtain ⟨A, G, s, P, n, T, f, E, hC, hM, hI⟩ := h
  have hO : hOk A.1 := hI.1.1
  obtain ⟨⟨h1, h2, h3, h4, h9⟩, h5, h6, h7, h8⟩ := hC
  rcases i_in v (n := 2) (by omega) with ⟨k, hk, rfl⟩ | hv
  · have e9 := in_in (k := k) (m := 1) (by omega) (by omega)
    have ha1 := im_isSh hk
    have ha2 := im_isBe hk
    have ha3 := im_isSe hk
    obtain ⟨J1, K1, e1, a1, a2, a3, a4, a5, a6⟩ := c_shCopy (N := N) (r := r) (a := 138 + 24 * k) (c := 4) ha1 rfl (by omega) hO h1 h2 h9
    have hb1 : BR 26 A.2.2.1 J1 := BR_of (fun q z1 z2 => a5 q (by omega)) h3
    obtain ⟨J2, e2, b1, b2⟩ := c_copyFrom (N := N) (L := K1) (r := r) (a := 149 + 24 * k) (c := 26) ha2 rfl (by omega) hb1
    have hs2 : SS 114 A.1 A.2.2.2 J2 := SS_of (fun q z1 z2 => by rw [b2 q (by omega)]; exact a5 q (by omega)) h4
    obtain ⟨J3, e3, c1, c2, c3⟩ := c_seCopy (N := N) (L := K1) (r := r) (a := 157 + 24 * k) (c := 114) ha3 rfl (by omega) hs2
    have fr : ∀ q, (q < 137 ∨ (137 < q ∧ q < 138 + 24 * k) ∨ 162 + 24 * k ≤ q) → up J3 137 k (i32 1) q = I q := fun q hq => by
      rw [up_row (by omega), c3 q (by omega), b2 q (by omega)]; exact a5 q (by omega)
    have e4 := im_sh (I := I) (L := L) (r := r) hk
    have e5 := im_be (I := J1) (L := K1) (r := r) hk
    have e6 := im_se (I := J2) (L := K1) (r := r) hk
    have f1 := m_img1 (I := up (up J3 137 k (i32 1)) 186 0 (i32 0)) (L := K1) (r := r) hk hN
    have f2 := m_img2 (I := cpy (up (up J3 137 k (i32 1)) 186 0 (i32 0)) 188 0 190 (441 * k) 441) (L := K1) (r := r) hk hN
    refine ⟨i32 1, up J3 137 k (i32 1), K1, r, up (cpy (up (up J3 137 k (i32 1)) 186 0 (i32 0)) 188 0 190 (441 * k) 441) 196 k (i32 1), cpyL K1 193 0 195 (16 * k) 16, ?_, ?_, A, fun j => if j = k then some A else G j, s, P, n, T, f, E, ?_, ?_, ?_⟩
    · unfold fX10_image
      repeat (first | (apply bd_eq; (focus (simp (disch := first | assumption | omega | rfl) only [i_rem, i_pred, i_addn1, i_lit, i_n1, i_add, i_mul, i_sub, i_le, i_lt, i_eq, i_ne1, n1_ne, n1_lt, n1_le, i_lt1, i_le1, bd_s, nar_bi, nar_0, nar_1, if_pos, if_neg, ↓reduceIte, reduceCtorEq, eq_self, if_true, if_false, not_true_eq_false, not_false_eq_true, x0_k, x0_fI, x0_fL, x0_pI, x0_pL, x0_z0, x0_z1, x0_fR0, x0_fR1, x0_fR2, x0_fR3, x0_fR4, x0_fR5, x0_fR6, x0_fR7, x0_fR8, x0_fR9, x0_fR10, x0_fR11, x0_fR12, x0_fR13, x013_a, x013_t, x013_n, x0_fR15, x0_fR16, x0_fR17, x0_fR18, x018_a, x018_t, x018_n, sh_k, sh_fI, sh_fL, sh_pI, sh_pL, sh_z0, sh_z1, sh_fR1, sh1_a, sh1_t, sh1_n, sh_fR2, sh2_a, sh2_t, sh2_n, sh_fR3, sh3_a, sh3_t, sh3_n, sh_fR5, sh5_a, sh5_t, sh5_n, sh_fR7, sh7_a, sh7_t, sh7_n, sh_fR8, sh8_a, sh8_t, sh8_n, sh_fR10, sh10_a, sh10_t, sh10_n, sh_fR11, sh11_a, sh11_t, sh11_n, sh_fR12, sh12_a, sh12_t, sh12_n, sh_fR13, sh13_a, sh13_t, sh13_n, be_k, be_fI, be_fL, be_pI, be_pL, be_z0, be_z1, be_fR0, be_fR1, be1_a, be1_t, be1_n, be_fR2, be2_a, be2_t, be2_n, be_fR3, be3_a, be3_t, be3_n, be_fR4, be4_a, be4_t, be4_n, be_fR5, be5_a, be5_t, be5_n, be_fR6, be6_a, be6_t, be6_n, be_fR7, be7_a, be7_t, be7_n, se_k, se_fI, se_fL, se_pI, se_pL, se_z0, se_z1, se_fR0, se_fR1, se1_a, se1_t, se1_n, se_fR2, se2_a, se2_t, se2_n, se_fR3, se3_a, se3_t, se3_n, se_fR4, se4_a, se4_t, se4_n, e4, e1, e5, e2, e6, e3]; first | done | (with_reducible rfl; done))); try dsimp only) | (apply it_p; (focus (first | assumption | (simp (disch := first | assumption | omega | rfl) only [i_rem, i_pred, i_addn1, i_lit, i_n1, i_add, i_mul, i_sub, i_le, i_lt, i_eq, i_ne1, n1_ne, n1_lt, n1_le, i_lt1, i_le1, bd_s, nar_bi, nar_0, nar_1, if_pos, if_neg, ↓reduceIte, reduceCtorEq, eq_self, if_true, if_false, not_true_eq_false, not_false_eq_true, x0_k, x0_fI, x0_fL, x0_pI, x0_pL, x0_z0, x0_z1, x0_fR0, x0_fR1, x0_fR2, x0_fR3, x0_fR4, x0_fR5, x0_fR6, x0_fR7, x0_fR8, x0_fR9, x0_fR10, x0_fR11, x0_fR12, x0_fR13, x013_a, x013_t, x013_n, x0_fR15, x0_fR16, x0_fR17, x0_fR18, x018_a, x018_t, x018_n, sh_k, sh_fI, sh_fL, sh_pI, sh_pL, sh_z0, sh_z1, sh_fR1, sh1_a, sh1_t, sh1_n, sh_fR2, sh2_a, sh2_t, sh2_n, sh_fR3, sh3_a, sh3_t, sh3_n, sh_fR5, sh5_a, sh5_t, sh5_n, sh_fR7, sh7_a, sh7_t, sh7_n, sh_fR8, sh8_a, sh8_t, sh8_n, sh_fR10, sh10_a, sh10_t, sh10_n, sh_fR11, sh11_a, sh11_t, sh11_n, sh_fR12, sh12_a, sh12_t, sh12_n, sh_fR13, sh13_a, sh13_t, sh13_n, be_k, be_fI, be_fL, be_pI, be_pL, be_z0, be_z1, be_fR0, be_fR1, be1_a, be1_t, be1_n, be_fR2, be2_a, be2_t, be2_n, be_fR3, be3_a, be3_t, be3_n, be_fR4, be4_a, be4_t, be4_n, be_fR5, be5_a, be5_t, be5_n, be_fR6, be6_a, be6_t, be6_n, be_fR7, be7_a, be7_t, be7_n, se_k, se_fI, se_fL, se_pI, se_pL, se_z0, se_z1, se_fR0, se_fR1, se1_a, se1_t, se1_n, se_fR2, se2_a, se2_t, se2_n, se_fR3, se3_a, se3_t, se3_n, se_fR4, se4_a, se4_t, se4_n, e4, e1, e5, e2, e6, e3]; first | done | omega)))) | (apply it_n; (focus (first | assumption | (simp (disch := first | assumption | omega | rfl) only [i_rem, i_pred, i_addn1, i_lit, i_n1, i_add, i_mul, i_sub, i_le, i_lt, i_eq, i_ne1, n1_ne, n1_lt, n1_le, i_lt1, i_le1, bd_s, nar_bi, nar_0, nar_1, if_pos, if_neg, ↓reduceIte, reduceCtorEq, eq_self, if_true, if_false, not_true_eq_false, not_false_eq_true, x0_k, x0_fI, x0_fL, x0_pI, x0_pL, x0_z0, x0_z1, x0_fR0, x0_fR1, x0_fR2, x0_fR3, x0_fR4, x0_fR5, x0_fR6, x0_fR7, x0_fR8, x0_fR9, x0_fR10, x0_fR11, x0_fR12, x0_fR13, x013_a, x013_t, x013_n, x0_fR15, x0_fR16, x0_fR17, x0_fR18, x018_a, x018_t, x018_n, sh_k, sh_fI, sh_fL, sh_pI, sh_pL, sh_z0, sh_z1, sh_fR1, sh1_a, sh1_t, sh1_n, sh_fR2, sh2_a, sh2_t, sh2_n, sh_fR3, sh3_a, sh3_t, sh3_n, sh_fR5, sh5_a, sh5_t, sh5_n, sh_fR7, sh7_a, sh7_t, sh7_n, sh_fR8, sh8_a, sh8_t, sh8_n, sh_fR10, sh10_a, sh10_t, sh10_n, sh_fR11, sh11_a, sh11_t, sh11_n, sh_fR12, sh12_a, sh12_t, sh12_n, sh_fR13, sh13_a, sh13_t, sh13_n, be_k, be_fI, be_fL, be_pI, be_pL, be_z0, be_z1, be_fR0, be_fR1, be1_a, be1_t, be1_n, be_fR2, be2_a, be2_t, be2_n, be_fR3, be3_a, be3_t, be3_n, be_fR4, be4_a, be4_t, be4_n, be_fR5, be5_a, be5_t, be5_n, be_fR6, be6_a, be6_t, be6_n, be_fR7, be7_a, be7_t, be7_n, se_k, se_fI, se_fL, se_pI, se_pL, se_z0, se_z1, se_fR0, se_fR1, se1_a, se1_t, se1_n, se_fR2, se2_a, se2_t, se2_n, se_fR3, se3_a, se3_t, se3_n, se_fR4, se4_a, se4_t, se4_n, e4, e1, e5, e2, e6, e3]; first | done | omega)))))
      all_goals rfl
    · unfold fX11_image
      repeat (first | (apply bd_eq; (focus (simp (disch := first | assumption | omega | rfl) only [i_rem, i_pred, i_addn1, i_lit, i_n1, i_add, i_mul, i_sub, i_le, i_lt, i_eq, i_ne1, n1_ne, n1_lt, n1_le, i_lt1, i_le1, bd_s, nar_bi, nar_0, nar_1, if_pos, if_neg, ↓reduceIte, reduceCtorEq, eq_self, if_true, if_false, not_true_eq_false, not_false_eq_true, mo_k, mo_fI, mo_fL, mo_pI, mo_pL, mo_z0, mo_z1, mo_fR1, mo1_a, mo1_t, mo1_n, mo_fR14, mo14_a, mo14_t, mo14_n, mo_fR15, mo15_a, mo15_t, mo15_n, mo_fR16, mo16_a, mo16_t, mo16_n, mo_fR17, mo17_a, mo17_t, mo17_n, mo_fR18, mo18_a, mo18_t, mo18_n, mo_fR19, mo19_a, mo19_t, mo19_n, mo_fR20, mo20_a, mo20_t, mo20_n, mo_fR21, mo21_a, mo21_t, mo21_n, mo_fR22, mo22_a, mo22_t, mo22_n, mo_fR25, mo25_a, mo25_t, mo25_n, mo_fR26, mo26_a, mo26_t, mo26_n, mo_fR28, mo28_a, mo28_t, mo28_n, mo_fR29, mo29_a, mo29_t, mo29_n, mo_fR30, mo30_a, mo30_t, mo30_n, mo_fR33, mo33_a, mo33_t, mo33_n, mo_fR36, mo36_a, mo36_t, mo36_n, mo_fR37, mo37_a, mo37_t, mo37_n, mo_fR40, mo40_a, mo40_t, mo40_n, m_isInT e9, f1, f2]; first | done | (with_reducible rfl; done))); try dsimp only) | (apply it_p; (focus (first | assumption | (simp (disch := first | assumption | omega | rfl) only [i_rem, i_pred, i_addn1, i_lit, i_n1, i_add, i_mul, i_sub, i_le, i_lt, i_eq, i_ne1, n1_ne, n1_lt, n1_le, i_lt1, i_le1, bd_s, nar_bi, nar_0, nar_1, if_pos, if_neg, ↓reduceIte, reduceCtorEq, eq_self, if_true, if_false, not_true_eq_false, not_false_eq_true, mo_k, mo_fI, mo_fL, mo_pI, mo_pL, mo_z0, mo_z1, mo_fR1, mo1_a, mo1_t, mo1_n, mo_fR14, mo14_a, mo14_t, mo14_n, mo_fR15, mo15_a, mo15_t, mo15_n, mo_fR16, mo16_a, mo16_t, mo16_n, mo_fR17, mo17_a, mo17_t, mo17_n, mo_fR18, mo18_a, mo18_t, mo18_n, mo_fR19, mo19_a, mo19_t, mo19_n, mo_fR20, mo20_a, mo20_t, mo20_n, mo_fR21, mo21_a, mo21_t, mo21_n, mo_fR22, mo22_a, mo22_t, mo22_n, mo_fR25, mo25_a, mo25_t, mo25_n, mo_fR26, mo26_a, mo26_t, mo26_n, mo_fR28, mo28_a, mo28_t, mo28_n, mo_fR29, mo29_a, mo29_t, mo29_n, mo_fR30, mo30_a, mo30_t, mo30_n, mo_fR33, mo33_a, mo33_t, mo33_n, mo_fR36, mo36_a, mo36_t, mo36_n, mo_fR37, mo37_a, mo37_t, mo37_n, mo_fR40, mo40_a, mo40_t, mo40_n, m_isInT e9, f1, f2]; first | done | omega)))) | (apply it_n; (focus (first | assumption | (simp (disch := first | assumption | omega | rfl) only [i_rem, i_pred, i_addn1, i_lit, i_n1, i_add, i_mul, i_sub, i_le, i_lt, i_eq, i_ne1, n1_ne, n1_lt, n1_le, i_lt1, i_le1, bd_s, nar_bi, nar_0, nar_1, if_pos, if_neg, ↓reduceIte, reduceCtorEq, eq_self, if_true, if_false, not_true_eq_false, not_false_eq_true, mo_k, mo_fI, mo_fL, mo_pI, mo_pL, mo_z0, mo_z1, mo_fR1, mo1_a, mo1_t, mo1_n, mo_fR14, mo14_a, mo14_t, mo14_n, mo_fR15, mo15_a, mo15_t, mo15_n, mo_fR16, mo16_a, mo16_t, mo16_n, mo_fR17, mo17_a, mo17_t, mo17_n, mo_fR18, mo18_a, mo18_t, mo18_n, mo_fR19, mo19_a, mo19_t, mo19_n, mo_fR20, mo20_a, mo20_t, mo20_n, mo_fR21, mo21_a, mo21_t, mo21_n, mo_fR22, mo22_a, mo22_t, mo22_n, mo_fR25, mo25_a, mo25_t, mo25_n, mo_fR26, mo26_a, mo26_t, mo26_n, mo_fR28, mo28_a, mo28_t, mo28_n, mo_fR29, mo29_a, mo29_t, mo29_n, mo_fR30, mo30_a, mo30_t, mo30_n, mo_fR33, mo33_a, mo33_t, mo33_n, mo_fR36, mo36_a, mo36_t, mo36_n, mo_fR37, mo37_a, mo37_t, mo37_n, mo_fR40, mo40_a, mo40_t, mo40_n, m_isInT e9, f1, f2]; first | done | omega)))))
      all_goals rfl
    · have fr2 : ∀ q, (q < 137 ∨ (137 < q ∧ q < 138 + 24 * k) ∨ (162 + 24 * k ≤ q ∧ q < 186)) → up (cpy (up (up J3 137 k (i32 1)) 186 0 (i32 0)) 188 0 190 (441 * k) 441) 196 k (i32 1) q = I q := fun q hq => by
        rw [up_row (by omega), cpy_row (by omega), up_row (by omega)]; exact fr q (by omega)
      have fr3 : ∀ q, 137 ≤ q → q < 186 → up (cpy (up (up J3 137 k (i32 1)) 186 0 (i32 0)) 188 0 190 (441 * k) 441) 196 k (i32 1) q = up J3 137 k (i32 1) q := fun q z1 z2 => by
        rw [up_row (by omega), cpy_row (by omega), up_row (by omega)]
      have frL : ∀ q, (q < 138 + 24 * k ∨ (162 + 24 * k ≤ q ∧ q < 186)) → cpyL K1 193 0 195 (16 * k) 16 q = L q := fun q hq => by
        rw [cpyL_row (by omega)]; exact a6 q (by omega)
      refine ⟨⟨RS_of (fun q z1 z2 => fr2 q (by omega)) h1, NS_of (fun q z1 z2 => frL q (by omega)) h2, BR_of (fun q z1 z2 => fr2 q (by omega)) h3, SS_of (fun q z1 z2 => fr2 q (by omega)) h4, LT_of (fr2 _ (by omega)) h9⟩, PR_of (fun q z1 z2 => fr2 q (by omega)) h5, fun j hj => ?_, CT_of (fr2 1 (by omega)) (fr2 2 (by omega)) (frL 3 (by omega)) h7, CE_of (fr2 _ (by omega)) (fr2 _ (by omega)) (fr2 _ (by omega)) (fr2 _ (by omega)) (fr2 _ (by omega)) h8⟩
      by_cases hjk : j = k
      · subst hjk
        dsimp only
        rw [if_pos rfl]
        refine ⟨by rw [fr3 137 (by omega) (by omega)]; exact up_self, RS_of (fun q z1 z2 => ?_) a1, NS_of (fun q z1 z2 => ?_) a2, BR_of (fun q z1 z2 => ?_) b1, SS_of (fun q z1 z2 => ?_) c1, LT_of ?_ a3⟩
        · rw [fr3 q (by omega) (by omega), up_row (by omega), c3 q (by omega), b2 q (by omega)]
        · rw [cpyL_row (by omega)]
        · rw [fr3 q (by omega) (by omega), up_row (by omega), c3 q (by omega)]
        · rw [fr3 q (by omega) (by omega), up_row (by omega)]
        · rw [fr3 _ (by omega) (by omega), up_row (by omega), c3 _ (by omega), b2 _ (by omega)]
      · dsimp only
        rw [if_neg hjk]
        have hg := h6 j hj
        cases hG : G j with
        | none =>
          rw [hG] at hg
          show _ = i32 0
          rw [fr3 137 (by omega) (by omega), up_ofk hjk, c3 137 (by omega), b2 137 (by omega), a5 137 (by omega)]
          exact hg
        | some A' =>
          rw [hG] at hg
          obtain ⟨g1, g2, g3, g4, g5, g6⟩ := hg
          refine ⟨?_, RS_of (fun q z1 z2 => fr2 q (by omega)) g2, NS_of (fun q z1 z2 => frL q (by omega)) g3, BR_of (fun q z1 z2 => fr2 q (by omega)) g4, SS_of (fun q z1 z2 => fr2 q (by omega)) g5, LT_of (fr2 _ (by omega)) g6⟩
          rw [fr3 137 (by omega) (by omega), up_ofk hjk, c3 137 (by omega), b2 137 (by omega), a5 137 (by omega)]
          exact g1
    · obtain ⟨m1, m2, m3, m4, m5⟩ := hM
      have fr2 : ∀ q, 187 ≤ q → q ≠ 190 → q ≠ 196 → up (cpy (up (up J3 137 k (i32 1)) 186 0 (i32 0)) 188 0 190 (441 * k) 441) 196 k (i32 1) q = I q := fun q z1 z2 z3 => by
        rw [up_row z3, cpy_row z2, up_row (by omega)]; exact fr q (by omega)
      have fr4 : ∀ j, j ≠ 0 → up (cpy (up (up J3 137 k (i32 1)) 186 0 (i32 0)) 188 0 190 (441 * k) 441) 196 k (i32 1) 186 j = I 186 j := fun j z1 => by
        rw [up_row (by omega), cpy_row (by omega), up_ofk z1, fr 186 (by omega)]
      have L1 : K1 193 = L 193 := a6 193 (by omega)
      have L2 : K1 195 = L 195 := a6 195 (by omega)
      have L3 : cpyL K1 193 0 195 (16 * k) 16 193 = L 193 := by rw [cpyL_row (by omega)]; exact L1
      refine ⟨?_, ?_, fun j hj => ?_, ?_, ?_⟩
      · rw [fr2 188 (by omega) (by omega) (by omega), L3]; exact m1
      · unfold MP at *; rw [fr2 191 (by omega) (by omega) (by omega), fr4 24 (by omega)]; exact m2
      · have r190 : up (cpy (up (up J3 137 k (i32 1)) 186 0 (i32 0)) 188 0 190 (441 * k) 441) 196 k (i32 1) 190 = cpy (up (up J3 137 k (i32 1)) 186 0 (i32 0)) 188 0 190 (441 * k) 441 190 := up_row (by omega)
        have i188 : up (up J3 137 k (i32 1)) 186 0 (i32 0) 188 = I 188 := by rw [up_row (by omega)]; exact fr 188 (by omega)
        have i190 : up (up J3 137 k (i32 1)) 186 0 (i32 0) 190 = I 190 := by rw [up_row (by omega)]; exact fr 190 (by omega)
        have i196 : cpy (up (up J3 137 k (i32 1)) 186 0 (i32 0)) 188 0 190 (441 * k) 441 196 = I 196 := by rw [cpy_row (by omega), up_row (by omega)]; exact fr 196 (by omega)
        by_cases hjk : j = k
        · subst hjk
          dsimp only
          rw [if_pos rfl]
          refine ⟨up_self, MA_of hO (fun i hi => ?_) (fun i hi => ?_) m1⟩
          · rw [r190, cpy_in (by omega), i188, show 441 * j + i - 441 * j = i by omega]
          · rw [cpyL_in (by omega), L1, show 16 * j + i - 16 * j = i by omega]
        · dsimp only
          rw [if_neg hjk]
          have hg := m3 j hj
          cases hG : G j with
          | none =>
            rw [hG] at hg
            show _ = i32 0
            rw [up_ofk hjk, i196]; exact hg
          | some A' =>
            rw [hG] at hg
            refine ⟨by rw [up_ofk hjk, i196]; exact hg.1, MA_of (hI.2.1 j hj A' hG).1 (fun i hi => ?_) (fun i hi => ?_) hg.2⟩
            · rw [r190, cpy_out (by omega), i190]
            · rw [cpyL_out (by omega), L2]
      · unfold MT at *; rw [fr2 187 (by omega) (by omega) (by omega), fr4 2 (by omega), fr4 10 (by omega)]; exact m4
      · unfold ME at *; rw [fr2 198 (by omega) (by omega) (by omega), fr2 200 (by omega) (by omega) (by omega), fr2 202 (by omega) (by omega) (by omega), fr2 204 (by omega) (by omega) (by omega), fr4 27 (by omega), fr4 32 (by omega), fr4 31 (by omega), fr4 39 (by omega), fr4 34 (by omega)]; exact m5
    · refine ⟨hI.1, fun j hj A' hA => ?_, hI.2.2⟩
      dsimp only at hA
      by_cases hjk : j = k
      · rw [if_pos hjk] at hA; cases hA; exact hI.1
      · rw [if_neg hjk] at hA; exact hI.2.1 j hj A' hA
  · have e9 := in_out (n := 2) (by omega) (by omega) hv
    refine Step_q (x := i32 0) (v := i32 0) ⟨⟨⟨h1, h2, h3, h4, h9⟩, h5, h6, h7, h8⟩, hM, hI⟩ ?_ ?_
    · unfold fX10_image
      rcases hv with hv | ⟨hv0, hv⟩
      · rw [if_pos hv]; rfl
      · have hv2 : ¬ v < 2 := by
          have : i32 2 ≤ v := hv
          show ¬ v < i32 2
          rw [Int32.lt_iff_toInt_lt]; rw [Int32.le_iff_toInt_le] at this; omega
        have hv1 : ¬ v < 0 := by
          rw [Int32.lt_iff_toInt_lt]; rw [Int32.le_iff_toInt_le] at hv0; omega
        rw [if_neg hv1, if_neg hv2]; rfl
    · unfold fX11_image
      repeat (first | (apply bd_eq; (focus (simp (disch := first | assumption | omega | rfl) only [i_rem, i_pred, i_addn1, i_lit, i_n1, i_add, i_mul, i_sub, i_le, i_lt, i_eq, i_ne1, n1_ne, n1_lt, n1_le, i_lt1, i_le1, bd_s, nar_bi, nar_0, nar_1, if_pos, if_neg, ↓reduceIte, reduceCtorEq, eq_self, if_true, if_false, not_true_eq_false, not_false_eq_true, mo_k, mo_fI, mo_fL, mo_pI, mo_pL, mo_z0, mo_z1, mo_fR1, mo1_a, mo1_t, mo1_n, mo_fR14, mo14_a, mo14_t, mo14_n, mo_fR15, mo15_a, mo15_t, mo15_n, mo_fR16, mo16_a, mo16_t, mo16_n, mo_fR17, mo17_a, mo17_t, mo17_n, mo_fR18, mo18_a, mo18_t, mo18_n, mo_fR19, mo19_a, mo19_t, mo19_n, mo_fR20, mo20_a, mo20_t, mo20_n, mo_fR21, mo21_a, mo21_t, mo21_n, mo_fR22, mo22_a, mo22_t, mo22_n, mo_fR25, mo25_a, mo25_t, mo25_n, mo_fR26, mo26_a, mo26_t, mo26_n, mo_fR28, mo28_a, mo28_t, mo28_n, mo_fR29, mo29_a, mo29_t, mo29_n, mo_fR30, mo30_a, mo30_t, mo30_n, mo_fR33, mo33_a, mo33_t, mo33_n, mo_fR36, mo36_a, mo36_t, mo36_n, mo_fR37, mo37_a, mo37_t, mo37_n, mo_fR40, mo40_a, mo40_t, mo40_n, m_isInF e9]; first | done | (with_reducible rfl; done))); try dsimp only) | (apply it_p; (focus (first | assumption | (simp (disch := first | assumption | omega | rfl) only [i_rem, i_pred, i_addn1, i_lit, i_n1, i_add, i_mul, i_sub, i_le, i_lt, i_eq, i_ne1, n1_ne, n1_lt, n1_le, i_lt1, i_le1, bd_s, nar_bi, nar_0, nar_1, if_pos, if_neg, ↓reduceIte, reduceCtorEq, eq_self, if_true, if_false, not_true_eq_false, not_false_eq_true, mo_k, mo_fI, mo_fL, mo_pI, mo_pL, mo_z0, mo_z1, mo_fR1, mo1_a, mo1_t, mo1_n, mo_fR14, mo14_a, mo14_t, mo14_n, mo_fR15, mo15_a, mo15_t, mo15_n, mo_fR16, mo16_a, mo16_t, mo16_n, mo_fR17, mo17_a, mo17_t, mo17_n, mo_fR18, mo18_a, mo18_t, mo18_n, mo_fR19, mo19_a, mo19_t, mo19_n, mo_fR20, mo20_a, mo20_t, mo20_n, mo_fR21, mo21_a, mo21_t, mo21_n, mo_fR22, mo22_a, mo22_t, mo22_n, mo_fR25, mo25_a, mo25_t, mo25_n, mo_fR26, mo26_a, mo26_t, mo26_n, mo_fR28, mo28_a, mo28_t, mo28_n, mo_fR29, mo29_a, mo29_t, mo29_n, mo_fR30, mo30_a, mo30_t, mo30_n, mo_fR33, mo33_a, mo33_t, mo33_n, mo_fR36, mo36_a, mo36_t, mo36_n, mo_fR37, mo37_a, mo37_t, mo37_n, mo_fR40, mo40_a, mo40_t, mo40_n, m_isInF e9]; first | done | omega)))) | (apply it_n; (focus (first | assumption | (simp (disch := first | assumption | omega | rfl) only [i_rem, i_pred, i_addn1, i_lit, i_n1, i_add, i_mul, i_sub, i_le, i_lt, i_eq, i_ne1, n1_ne, n1_lt, n1_le, i_lt1, i_le1, bd_s, nar_bi, nar_0, nar_1, if_pos, if_neg, ↓reduceIte, reduceCtorEq, eq_self, if_true, if_false, not_true_eq_false, not_false_eq_true, mo_k, mo_fI, mo_fL, mo_pI, mo_pL, mo_z0, mo_z1, mo_fR1, mo1_a, mo1_t, mo1_n, mo_fR14, mo14_a, mo14_t, mo14_n, mo_fR15, mo15_a, mo15_t, mo15_n, mo_fR16, mo16_a, mo16_t, mo16_n, mo_fR17, mo17_a, mo17_t, mo17_n, mo_fR18, mo18_a, mo18_t, mo18_n, mo_fR19, mo19_a, mo19_t, mo19_n, mo_fR20, mo20_a, mo20_t, mo20_n, mo_fR21, mo21_a, mo21_t, mo21_n, mo_fR22, mo22_a, mo22_t, mo22_n, mo_fR25, mo25_a, mo25_t, mo25_n, mo_fR26, mo26_a, mo26_t, mo26_n, mo_fR28, mo28_a, mo28_t, mo28_n, mo_fR29, mo29_a, mo29_t, mo29_n, mo_fR30, mo30_a, mo30_t, mo30_n, mo_fR33, mo33_a, mo33_t, mo33_n, mo_fR36, mo36_a, mo36_t, mo36_n, mo_fR37, mo37_a, mo37_t, mo37_n, mo_fR40, mo40_a, mo40_t, mo40_n, m_isInF e9]; first | done | omega)))))
      all_goals rfl
theorem q_restore (hN : 1200 < N) (h : Ok I L) {v : Int32} : Step2 (fX10_restore N 0 v) (fX11_restore N 186 v) I L r := by
  obtain ⟨A, G, s, P, n, T, f, E, hC, hM, hI⟩ := h
  rcases i_in v (n := 2) (by omega) with ⟨k, hk, rfl⟩ | hv
  · have e9 := in_in (k := k) (m := 1) (by omega) (by omega)
    have hcg := hC.2.2.1 k hk
    have hmg := hM.2.2.1 k hk
    cases hG : G k with
    | none =>
      rw [hG] at hcg hmg
      have hc0 : I 137 k = i32 0 := hcg
      have hm0 : I 196 k = i32 0 := hmg
      refine Step_q (x := i32 0) (v := i32 0) ⟨hC, hM, hI⟩ ?_ ?_
      · unfold fX10_restore
        repeat (first | (apply bd_eq; (focus (simp (disch := first | assumption | omega | rfl) only [i_rem, i_pred, i_addn1, i_lit, i_n1, i_add, i_mul, i_sub, i_le, i_lt, i_eq, i_ne1, n1_ne, n1_lt, n1_le, i_lt1, i_le1, bd_s, nar_bi, nar_0, nar_1, if_pos, if_neg, ↓reduceIte, reduceCtorEq, eq_self, if_true, if_false, not_true_eq_false, not_false_eq_true, x0_k, x0_fI, x0_fL, x0_pI, x0_pL, x0_z0, x0_z1, x0_fR0, x0_fR1, x0_fR2, x0_fR3, x0_fR4, x0_fR5, x0_fR6, x0_fR7, x0_fR8, x0_fR9, x0_fR10, x0_fR11, x0_fR12, x0_fR13, x013_a, x013_t, x013_n, x0_fR15, x0_fR16, x0_fR17, x0_fR18, x018_a, x018_t, x018_n, hc0]; first | done | (with_reducible rfl; done))); try dsimp only) | (apply it_p; (focus (first | assumption | (simp (disch := first | assumption | omega | rfl) only [i_rem, i_pred, i_addn1, i_lit, i_n1, i_add, i_mul, i_sub, i_le, i_lt, i_eq, i_ne1, n1_ne, n1_lt, n1_le, i_lt1, i_le1, bd_s, nar_bi, nar_0, nar_1, if_pos, if_neg, ↓reduceIte, reduceCtorEq, eq_self, if_true, if_false, not_true_eq_false, not_false_eq_true, x0_k, x0_fI, x0_fL, x0_pI, x0_pL, x0_z0, x0_z1, x0_fR0, x0_fR1, x0_fR2, x0_fR3, x0_fR4, x0_fR5, x0_fR6, x0_fR7, x0_fR8, x0_fR9, x0_fR10, x0_fR11, x0_fR12, x0_fR13, x013_a, x013_t, x013_n, x0_fR15, x0_fR16, x0_fR17, x0_fR18, x018_a, x018_t, x018_n, hc0]; first | done | omega)))) | (apply it_n; (focus (first | assumption | (simp (disch := first | assumption | omega | rfl) only [i_rem, i_pred, i_addn1, i_lit, i_n1, i_add, i_mul, i_sub, i_le, i_lt, i_eq, i_ne1, n1_ne, n1_lt, n1_le, i_lt1, i_le1, bd_s, nar_bi, nar_0, nar_1, if_pos, if_neg, ↓reduceIte, reduceCtorEq, eq_self, if_true, if_false, not_true_eq_false, not_false_eq_true, x0_k, x0_fI, x0_fL, x0_pI, x0_pL, x0_z0, x0_z1, x0_fR0, x0_fR1, x0_fR2, x0_fR3, x0_fR4, x0_fR5, x0_fR6, x0_fR7, x0_fR8, x0_fR9, x0_fR10, x0_fR11, x0_fR12, x0_fR13, x013_a, x013_t, x013_n, x0_fR15, x0_fR16, x0_fR17, x0_fR18, x018_a, x018_t, x018_n, hc0]; first | done | omega)))))
        all_goals rfl
      · unfold fX11_restore
        repeat (first | (apply bd_eq; (focus (simp (disch := first | assumption | omega | rfl) only [i_rem, i_pred, i_addn1, i_lit, i_n1, i_add, i_mul, i_sub, i_le, i_lt, i_eq, i_ne1, n1_ne, n1_lt, n1_le, i_lt1, i_le1, bd_s, nar_bi, nar_0, nar_1, if_pos, if_neg, ↓reduceIte, reduceCtorEq, eq_self, if_true, if_false, not_true_eq_false, not_false_eq_true, mo_k, mo_fI, mo_fL, mo_pI, mo_pL, mo_z0, mo_z1, mo_fR1, mo1_a, mo1_t, mo1_n, mo_fR14, mo14_a, mo14_t, mo14_n, mo_fR15, mo15_a, mo15_t, mo15_n, mo_fR16, mo16_a, mo16_t, mo16_n, mo_fR17, mo17_a, mo17_t, mo17_n, mo_fR18, mo18_a, mo18_t, mo18_n, mo_fR19, mo19_a, mo19_t, mo19_n, mo_fR20, mo20_a, mo20_t, mo20_n, mo_fR21, mo21_a, mo21_t, mo21_n, mo_fR22, mo22_a, mo22_t, mo22_n, mo_fR25, mo25_a, mo25_t, mo25_n, mo_fR26, mo26_a, mo26_t, mo26_n, mo_fR28, mo28_a, mo28_t, mo28_n, mo_fR29, mo29_a, mo29_t, mo29_n, mo_fR30, mo30_a, mo30_t, mo30_n, mo_fR33, mo33_a, mo33_t, mo33_n, mo_fR36, mo36_a, mo36_t, mo36_n, mo_fR37, mo37_a, mo37_t, mo37_n, mo_fR40, mo40_a, mo40_t, mo40_n, m_isInT e9, up_off, hm0]; first | done | (with_reducible rfl; done))); try dsimp only) | (apply it_p; (focus (first | assumption | (simp (disch := first | assumption | omega | rfl) only [i_rem, i_pred, i_addn1, i_lit, i_n1, i_add, i_mul, i_sub, i_le, i_lt, i_eq, i_ne1, n1_ne, n1_lt, n1_le, i_lt1, i_le1, bd_s, nar_bi, nar_0, nar_1, if_pos, if_neg, ↓reduceIte, reduceCtorEq, eq_self, if_true, if_false, not_true_eq_false, not_false_eq_true, mo_k, mo_fI, mo_fL, mo_pI, mo_pL, mo_z0, mo_z1, mo_fR1, mo1_a, mo1_t, mo1_n, mo_fR14, mo14_a, mo14_t, mo14_n, mo_fR15, mo15_a, mo15_t, mo15_n, mo_fR16, mo16_a, mo16_t, mo16_n, mo_fR17, mo17_a, mo17_t, mo17_n, mo_fR18, mo18_a, mo18_t, mo18_n, mo_fR19, mo19_a, mo19_t, mo19_n, mo_fR20, mo20_a, mo20_t, mo20_n, mo_fR21, mo21_a, mo21_t, mo21_n, mo_fR22, mo22_a, mo22_t, mo22_n, mo_fR25, mo25_a, mo25_t, mo25_n, mo_fR26, mo26_a, mo26_t, mo26_n, mo_fR28, mo28_a, mo28_t, mo28_n, mo_fR29, mo29_a, mo29_t, mo29_n, mo_fR30, mo30_a, mo30_t, mo30_n, mo_fR33, mo33_a, mo33_t, mo33_n, mo_fR36, mo36_a, mo36_t, mo36_n, mo_fR37, mo37_a, mo37_t, mo37_n, mo_fR40, mo40_a, mo40_t, mo40_n, m_isInT e9, up_off, hm0]; first | done | omega)))) | (apply it_n; (focus (first | assumption | (simp (disch := first | assumption | omega | rfl) only [i_rem, i_pred, i_addn1, i_lit, i_n1, i_add, i_mul, i_sub, i_le, i_lt, i_eq, i_ne1, n1_ne, n1_lt, n1_le, i_lt1, i_le1, bd_s, nar_bi, nar_0, nar_1, if_pos, if_neg, ↓reduceIte, reduceCtorEq, eq_self, if_true, if_false, not_true_eq_false, not_false_eq_true, mo_k, mo_fI, mo_fL, mo_pI, mo_pL, mo_z0, mo_z1, mo_fR1, mo1_a, mo1_t, mo1_n, mo_fR14, mo14_a, mo14_t, mo14_n, mo_fR15, mo15_a, mo15_t, mo15_n, mo_fR16, mo16_a, mo16_t, mo16_n, mo_fR17, mo17_a, mo17_t, mo17_n, mo_fR18, mo18_a, mo18_t, mo18_n, mo_fR19, mo19_a, mo19_t, mo19_n, mo_fR20, mo20_a, mo20_t, mo20_n, mo_fR21, mo21_a, mo21_t, mo21_n, mo_fR22, mo22_a, mo22_t, mo22_n, mo_fR25, mo25_a, mo25_t, mo25_n, mo_fR26, mo26_a, mo26_t, mo26_n, mo_fR28, mo28_a, mo28_t, mo28_n, mo_fR29, mo29_a, mo29_t, mo29_n, mo_fR30, mo30_a, mo30_t, mo30_n, mo_fR33, mo33_a, mo33_t, mo33_n, mo_fR36, mo36_a, mo36_t, mo36_n, mo_fR37, mo37_a, mo37_t, mo37_n, mo_fR40, mo40_a, mo40_t, mo40_n, m_isInT e9, up_off, hm0]; first | done | omega)))))
        all_goals rfl
    | some A' =>
      rw [hG] at hcg hmg
      have hA' := hI.2.1 k hk A' hG
      have hO : hOk A'.1 := hA'.1
      obtain ⟨g0, g1, g2, g3, g4, g5⟩ := hcg
      obtain ⟨q0, q1⟩ := hmg
      have ha1 := im_isSh hk
      have ha2 := im_isBe hk
      have ha3 := im_isSe hk
      obtain ⟨J1, K1, e1, a1, a2, a3, a4, a5, a6⟩ := c_shCopy (N := N) (r := r) (a := 4) (c := 138 + 24 * k) rfl ha1 (by omega) hO g1 g2 g5
      have hb1 : BR (149 + 24 * k) A'.2.2.1 J1 := BR_of (fun q z1 z2 => a5 q (by omega)) g3
      obtain ⟨J2, e2, b1, b2⟩ := c_copyFrom (N := N) (L := K1) (r := r) (a := 26) (c := 149 + 24 * k) rfl ha2 (by omega) hb1
      have hs2 : SS (157 + 24 * k) A'.1 A'.2.2.2 J2 := SS_of (fun q z1 z2 => by rw [b2 q (by omega)]; exact a5 q (by omega)) g4
      obtain ⟨J3, e3, c1, c2, c3⟩ := c_seCopy (N := N) (L := K1) (r := r) (a := 114) (c := 157 + 24 * k) rfl ha3 (by omega) hs2
      have e4 := im_sh (I := I) (L := L) (r := r) hk
      have e5 := im_be (I := J1) (L := K1) (r := r) hk
      have e6 := im_se (I := J2) (L := K1) (r := r) hk
      have fr : ∀ q, (q < 4 ∨ (15 ≤ q ∧ q < 26) ∨ (34 ≤ q ∧ q < 42) ∨ (42 < q ∧ q < 114) ∨ 119 ≤ q) → up (up J3 42 1 (i32 0)) 42 2 (i32 0) q = I q := fun q hq => by
        rw [up_row (by omega), up_row (by omega), c3 q (by omega), b2 q (by omega)]; exact a5 q (by omega)
      generalize hZ : up (up J3 42 1 (i32 0)) 42 2 (i32 0) = Z at fr
      have f1 := m_res1 (I := up Z 186 0 (i32 0)) (L := K1) (r := r) hk hN
      have f2 := m_res2 (I := cpy (up Z 186 0 (i32 0)) 190 (441 * k) 188 0 441) (L := K1) (r := r) hk hN
      refine ⟨i32 1, Z, K1, r, up (cpy (up Z 186 0 (i32 0)) 190 (441 * k) 188 0 441) 186 24 (i32 0), cpyL K1 195 (16 * k) 193 0 16, ?_, ?_, A', G, 0, P, n, T, f, E, ?_, ?_, ?_⟩
      · unfold fX10_restore
        repeat (first | (apply bd_eq; (focus (simp (disch := first | assumption | omega | rfl) only [i_rem, i_pred, i_addn1, i_lit, i_n1, i_add, i_mul, i_sub, i_le, i_lt, i_eq, i_ne1, n1_ne, n1_lt, n1_le, i_lt1, i_le1, bd_s, nar_bi, nar_0, nar_1, if_pos, if_neg, ↓reduceIte, reduceCtorEq, eq_self, if_true, if_false, not_true_eq_false, not_false_eq_true, x0_k, x0_fI, x0_fL, x0_pI, x0_pL, x0_z0, x0_z1, x0_fR0, x0_fR1, x0_fR2, x0_fR3, x0_fR4, x0_fR5, x0_fR6, x0_fR7, x0_fR8, x0_fR9, x0_fR10, x0_fR11, x0_fR12, x0_fR13, x013_a, x013_t, x013_n, x0_fR15, x0_fR16, x0_fR17, x0_fR18, x018_a, x018_t, x018_n, sh_k, sh_fI, sh_fL, sh_pI, sh_pL, sh_z0, sh_z1, sh_fR1, sh1_a, sh1_t, sh1_n, sh_fR2, sh2_a, sh2_t, sh2_n, sh_fR3, sh3_a, sh3_t, sh3_n, sh_fR5, sh5_a, sh5_t, sh5_n, sh_fR7, sh7_a, sh7_t, sh7_n, sh_fR8, sh8_a, sh8_t, sh8_n, sh_fR10, sh10_a, sh10_t, sh10_n, sh_fR11, sh11_a, sh11_t, sh11_n, sh_fR12, sh12_a, sh12_t, sh12_n, sh_fR13, sh13_a, sh13_t, sh13_n, be_k, be_fI, be_fL, be_pI, be_pL, be_z0, be_z1, be_fR0, be_fR1, be1_a, be1_t, be1_n, be_fR2, be2_a, be2_t, be2_n, be_fR3, be3_a, be3_t, be3_n, be_fR4, be4_a, be4_t, be4_n, be_fR5, be5_a, be5_t, be5_n, be_fR6, be6_a, be6_t, be6_n, be_fR7, be7_a, be7_t, be7_n, se_k, se_fI, se_fL, se_pI, se_pL, se_z0, se_z1, se_fR0, se_fR1, se1_a, se1_t, se1_n, se_fR2, se2_a, se2_t, se2_n, se_fR3, se3_a, se3_t, se3_n, se_fR4, se4_a, se4_t, se4_n, pa_k, pa_fI, pa_fL, pa_pI, pa_pL, pa_z0, pa_z1, pa_fR0, g0, e4, e1, e5, e2, e6, e3, fX5_clear, hZ]; first | done | (with_reducible rfl; done))); try dsimp only) | (apply it_p; (focus (first | assumption | (simp (disch := first | assumption | omega | rfl) only [i_rem, i_pred, i_addn1, i_lit, i_n1, i_add, i_mul, i_sub, i_le, i_lt, i_eq, i_ne1, n1_ne, n1_lt, n1_le, i_lt1, i_le1, bd_s, nar_bi, nar_0, nar_1, if_pos, if_neg, ↓reduceIte, reduceCtorEq, eq_self, if_true, if_false, not_true_eq_false, not_false_eq_true, x0_k, x0_fI, x0_fL, x0_pI, x0_pL, x0_z0, x0_z1, x0_fR0, x0_fR1, x0_fR2, x0_fR3, x0_fR4, x0_fR5, x0_fR6, x0_fR7, x0_fR8, x0_fR9, x0_fR10, x0_fR11, x0_fR12, x0_fR13, x013_a, x013_t, x013_n, x0_fR15, x0_fR16, x0_fR17, x0_fR18, x018_a, x018_t, x018_n, sh_k, sh_fI, sh_fL, sh_pI, sh_pL, sh_z0, sh_z1, sh_fR1, sh1_a, sh1_t, sh1_n, sh_fR2, sh2_a, sh2_t, sh2_n, sh_fR3, sh3_a, sh3_t, sh3_n, sh_fR5, sh5_a, sh5_t, sh5_n, sh_fR7, sh7_a, sh7_t, sh7_n, sh_fR8, sh8_a, sh8_t, sh8_n, sh_fR10, sh10_a, sh10_t, sh10_n, sh_fR11, sh11_a, sh11_t, sh11_n, sh_fR12, sh12_a, sh12_t, sh12_n, sh_fR13, sh13_a, sh13_t, sh13_n, be_k, be_fI, be_fL, be_pI, be_pL, be_z0, be_z1, be_fR0, be_fR1, be1_a, be1_t, be1_n, be_fR2, be2_a, be2_t, be2_n, be_fR3, be3_a, be3_t, be3_n, be_fR4, be4_a, be4_t, be4_n, be_fR5, be5_a, be5_t, be5_n, be_fR6, be6_a, be6_t, be6_n, be_fR7, be7_a, be7_t, be7_n, se_k, se_fI, se_fL, se_pI, se_pL, se_z0, se_z1, se_fR0, se_fR1, se1_a, se1_t, se1_n, se_fR2, se2_a, se2_t, se2_n, se_fR3, se3_a, se3_t, se3_n, se_fR4, se4_a, se4_t, se4_n, pa_k, pa_fI, pa_fL, pa_pI, pa_pL, pa_z0, pa_z1, pa_fR0, g0, e4, e1, e5, e2, e6, e3, fX5_clear, hZ]; first | done | omega)))) | (apply it_n; (focus (first | assumption | (simp (disch := first | assumption | omega | rfl) only [i_rem, i_pred, i_addn1, i_lit, i_n1, i_add, i_mul, i_sub, i_le, i_lt, i_eq, i_ne1, n1_ne, n1_lt, n1_le, i_lt1, i_le1, bd_s, nar_bi, nar_0, nar_1, if_pos, if_neg, ↓reduceIte, reduceCtorEq, eq_self, if_true, if_false, not_true_eq_false, not_false_eq_true, x0_k, x0_fI, x0_fL, x0_pI, x0_pL, x0_z0, x0_z1, x0_fR0, x0_fR1, x0_fR2, x0_fR3, x0_fR4, x0_fR5, x0_fR6, x0_fR7, x0_fR8, x0_fR9, x0_fR10, x0_fR11, x0_fR12, x0_fR13, x013_a, x013_t, x013_n, x0_fR15, x0_fR16, x0_fR17, x0_fR18, x018_a, x018_t, x018_n, sh_k, sh_fI, sh_fL, sh_pI, sh_pL, sh_z0, sh_z1, sh_fR1, sh1_a, sh1_t, sh1_n, sh_fR2, sh2_a, sh2_t, sh2_n, sh_fR3, sh3_a, sh3_t, sh3_n, sh_fR5, sh5_a, sh5_t, sh5_n, sh_fR7, sh7_a, sh7_t, sh7_n, sh_fR8, sh8_a, sh8_t, sh8_n, sh_fR10, sh10_a, sh10_t, sh10_n, sh_fR11, sh11_a, sh11_t, sh11_n, sh_fR12, sh12_a, sh12_t, sh12_n, sh_fR13, sh13_a, sh13_t, sh13_n, be_k, be_fI, be_fL, be_pI, be_pL, be_z0, be_z1, be_fR0, be_fR1, be1_a, be1_t, be1_n, be_fR2, be2_a, be2_t, be2_n, be_fR3, be3_a, be3_t, be3_n, be_fR4, be4_a, be4_t, be4_n, be_fR5, be5_a, be5_t, be5_n, be_fR6, be6_a, be6_t, be6_n, be_fR7, be7_a, be7_t, be7_n, se_k, se_fI, se_fL, se_pI, se_pL, se_z0, se_z1, se_fR0, se_fR1, se1_a, se1_t, se1_n, se_fR2, se2_a, se2_t, se2_n, se_fR3, se3_a, se3_t, se3_n, se_fR4, se4_a, se4_t, se4_n, pa_k, pa_fI, pa_fL, pa_pI, pa_pL, pa_z0, pa_z1, pa_fR0, g0, e4, e1, e5, e2, e6, e3, fX5_clear, hZ]; first | done | omega)))))
        all_goals rfl
      · have q0' : up Z 186 0 (i32 0) 196 k = i32 1 := by rw [up_row (by omega), fr 196 (by omega)]; exact q0
        unfold fX11_restore
        repeat (first | (apply bd_eq; (focus (simp (disch := first | assumption | omega | rfl) only [i_rem, i_pred, i_addn1, i_lit, i_n1, i_add, i_mul, i_sub, i_le, i_lt, i_eq, i_ne1, n1_ne, n1_lt, n1_le, i_lt1, i_le1, bd_s, nar_bi, nar_0, nar_1, if_pos, if_neg, ↓reduceIte, reduceCtorEq, eq_self, if_true, if_false, not_true_eq_false, not_false_eq_true, mo_k, mo_fI, mo_fL, mo_pI, mo_pL, mo_z0, mo_z1, mo_fR1, mo1_a, mo1_t, mo1_n, mo_fR14, mo14_a, mo14_t, mo14_n, mo_fR15, mo15_a, mo15_t, mo15_n, mo_fR16, mo16_a, mo16_t, mo16_n, mo_fR17, mo17_a, mo17_t, mo17_n, mo_fR18, mo18_a, mo18_t, mo18_n, mo_fR19, mo19_a, mo19_t, mo19_n, mo_fR20, mo20_a, mo20_t, mo20_n, mo_fR21, mo21_a, mo21_t, mo21_n, mo_fR22, mo22_a, mo22_t, mo22_n, mo_fR25, mo25_a, mo25_t, mo25_n, mo_fR26, mo26_a, mo26_t, mo26_n, mo_fR28, mo28_a, mo28_t, mo28_n, mo_fR29, mo29_a, mo29_t, mo29_n, mo_fR30, mo30_a, mo30_t, mo30_n, mo_fR33, mo33_a, mo33_t, mo33_n, mo_fR36, mo36_a, mo36_t, mo36_n, mo_fR37, mo37_a, mo37_t, mo37_n, mo_fR40, mo40_a, mo40_t, mo40_n, m_isInT e9, q0', f1, f2]; first | done | (with_reducible rfl; done))); try dsimp only) | (apply it_p; (focus (first | assumption | (simp (disch := first | assumption | omega | rfl) only [i_rem, i_pred, i_addn1, i_lit, i_n1, i_add, i_mul, i_sub, i_le, i_lt, i_eq, i_ne1, n1_ne, n1_lt, n1_le, i_lt1, i_le1, bd_s, nar_bi, nar_0, nar_1, if_pos, if_neg, ↓reduceIte, reduceCtorEq, eq_self, if_true, if_false, not_true_eq_false, not_false_eq_true, mo_k, mo_fI, mo_fL, mo_pI, mo_pL, mo_z0, mo_z1, mo_fR1, mo1_a, mo1_t, mo1_n, mo_fR14, mo14_a, mo14_t, mo14_n, mo_fR15, mo15_a, mo15_t, mo15_n, mo_fR16, mo16_a, mo16_t, mo16_n, mo_fR17, mo17_a, mo17_t, mo17_n, mo_fR18, mo18_a, mo18_t, mo18_n, mo_fR19, mo19_a, mo19_t, mo19_n, mo_fR20, mo20_a, mo20_t, mo20_n, mo_fR21, mo21_a, mo21_t, mo21_n, mo_fR22, mo22_a, mo22_t, mo22_n, mo_fR25, mo25_a, mo25_t, mo25_n, mo_fR26, mo26_a, mo26_t, mo26_n, mo_fR28, mo28_a, mo28_t, mo28_n, mo_fR29, mo29_a, mo29_t, mo29_n, mo_fR30, mo30_a, mo30_t, mo30_n, mo_fR33, mo33_a, mo33_t, mo33_n, mo_fR36, mo36_a, mo36_t, mo36_n, mo_fR37, mo37_a, mo37_t, mo37_n, mo_fR40, mo40_a, mo40_t, mo40_n, m_isInT e9, q0', f1, f2]; first | done | omega)))) | (apply it_n; (focus (first | assumption | (simp (disch := first | assumption | omega | rfl) only [i_rem, i_pred, i_addn1, i_lit, i_n1, i_add, i_mul, i_sub, i_le, i_lt, i_eq, i_ne1, n1_ne, n1_lt, n1_le, i_lt1, i_le1, bd_s, nar_bi, nar_0, nar_1, if_pos, if_neg, ↓reduceIte, reduceCtorEq, eq_self, if_true, if_false, not_true_eq_false, not_false_eq_true, mo_k, mo_fI, mo_fL, mo_pI, mo_pL, mo_z0, mo_z1, mo_fR1, mo1_a, mo1_t, mo1_n, mo_fR14, mo14_a, mo14_t, mo14_n, mo_fR15, mo15_a, mo15_t, mo15_n, mo_fR16, mo16_a, mo16_t, mo16_n, mo_fR17, mo17_a, mo17_t, mo17_n, mo_fR18, mo18_a, mo18_t, mo18_n, mo_fR19, mo19_a, mo19_t, mo19_n, mo_fR20, mo20_a, mo20_t, mo20_n, mo_fR21, mo21_a, mo21_t, mo21_n, mo_fR22, mo22_a, mo22_t, mo22_n, mo_fR25, mo25_a, mo25_t, mo25_n, mo_fR26, mo26_a, mo26_t, mo26_n, mo_fR28, mo28_a, mo28_t, mo28_n, mo_fR29, mo29_a, mo29_t, mo29_n, mo_fR30, mo30_a, mo30_t, mo30_n, mo_fR33, mo33_a, mo33_t, mo33_n, mo_fR36, mo36_a, mo36_t, mo36_n, mo_fR37, mo37_a, mo37_t, mo37_n, mo_fR40, mo40_a, mo40_t, mo40_n, m_isInT e9, q0', f1, f2]; first | done | omega)))))
        all_goals rfl
      · have fr2 : ∀ q, q < 186 → up (cpy (up Z 186 0 (i32 0)) 190 (441 * k) 188 0 441) 186 24 (i32 0) q = Z q := fun q hq => by
          rw [up_row (by omega), cpy_row (by omega), up_row (by omega)]
        obtain ⟨⟨h1, h2, h3, h4, h9⟩, h5, h6, h7, h8⟩ := hC
        have z3 : ∀ q, q ≠ 42 → Z q = J3 q := fun q hq => by rw [← hZ, up_row hq, up_row hq]
        refine ⟨⟨RS_of (fun q z1 z2 => ?_) a1, NS_of (fun q z1 z2 => ?_) a2, BR_of (fun q z1 z2 => ?_) b1, SS_of (fun q z1 z2 => ?_) c1, LT_of ?_ a3⟩, ⟨0, by omega, by omega, ?_, ?_, fun j hj => by omega⟩, fun j hj => CG_of hj (fun q z1 z2 => by rw [fr2 q (by omega)]; exact fr q (by omega)) (fun q z1 z2 => by rw [cpyL_row (by omega)]; exact a6 q (by omega)) (h6 j hj), CT_of ?_ ?_ ?_ h7, CE_of ?_ ?_ ?_ ?_ ?_ h8⟩
        · rw [fr2 q (by omega), z3 q (by omega), c3 q (by omega), b2 q (by omega)]
        · rw [cpyL_row (by omega)]
        · rw [fr2 q (by omega), z3 q (by omega), c3 q (by omega)]
        · rw [fr2 q (by omega), z3 q (by omega)]
        · rw [fr2 4 (by omega), z3 4 (by omega), c3 4 (by omega), b2 4 (by omega)]
        · rw [fr2 42 (by omega), ← hZ, up_ofk (by omega), up_self]
        · rw [fr2 42 (by omega), ← hZ, up_self]
        · rw [fr2 1 (by omega)]; exact fr 1 (by omega)
        · rw [fr2 2 (by omega)]; exact fr 2 (by omega)
        · rw [cpyL_row (by omega)]; exact a6 3 (by omega)
        · rw [fr2 127 (by omega)]; exact fr 127 (by omega)
        · rw [fr2 131 (by omega)]; exact fr 131 (by omega)
        · rw [fr2 108 (by omega)]; exact fr 108 (by omega)
        · rw [fr2 0 (by omega)]; exact fr 0 (by omega)
        · rw [fr2 133 (by omega)]; exact fr 133 (by omega)
      · obtain ⟨m1, m2, m3, m4, m5⟩ := hM
        have fr2 : ∀ q, 187 ≤ q → q ≠ 188 → up (cpy (up Z 186 0 (i32 0)) 190 (441 * k) 188 0 441) 186 24 (i32 0) q = I q := fun q z1 z2 => by
          rw [up_row (by omega), cpy_row z2, up_row (by omega)]; exact fr q (by omega)
        have fr4 : ∀ j, j ≠ 0 → j ≠ 24 → up (cpy (up Z 186 0 (i32 0)) 190 (441 * k) 188 0 441) 186 24 (i32 0) 186 j = I 186 j := fun j z1 z2 => by
          rw [up_ofk z2, cpy_row (by omega), up_ofk z1, fr 186 (by omega)]
        have L2 : K1 195 = L 195 := a6 195 (by omega)
        refine ⟨MA_of hO (fun i hi => ?_) (fun i hi => ?_) q1, ⟨by omega, up_self, fun j hj => by omega⟩, fun j hj => MG_of (fr2 _ (by omega) (by omega)) (fr2 _ (by omega) (by omega)) ?_ (m3 j hj), ?_, ?_⟩
        · rw [up_row (by omega), cpy_in (by omega), up_row (by omega), fr 190 (by omega), show 0 + i - 0 = i by omega]
        · rw [cpyL_in (by omega), L2, show 0 + i - 0 = i by omega]
        · rw [cpyL_row (by omega)]; exact L2
        · unfold MT at *; rw [fr2 187 (by omega) (by omega), fr4 2 (by omega) (by omega), fr4 10 (by omega) (by omega)]; exact m4
        · unfold ME at *; rw [fr2 198 (by omega) (by omega), fr2 200 (by omega) (by omega), fr2 202 (by omega) (by omega), fr2 204 (by omega) (by omega), fr4 27 (by omega) (by omega), fr4 32 (by omega) (by omega), fr4 31 (by omega) (by omega), fr4 39 (by omega) (by omega), fr4 34 (by omega) (by omega)]; exact m5
      · exact ⟨hA', hI.2.1, fun j hj => by omega, hI.2.2.2⟩
  · have e9 := in_out (n := 2) (by omega) (by omega) hv
    refine Step_q (x := i32 0) (v := i32 0) ⟨hC, hM, hI⟩ ?_ ?_
    · unfold fX10_restore
      rcases hv with hv | ⟨hv0, hv⟩
      · rw [if_pos hv]; rfl
      · have hv2 : (2 : Int32) ≤ v := hv
        have hv1 : ¬ v < 0 := by
          rw [Int32.lt_iff_toInt_lt]; rw [Int32.le_iff_toInt_le] at hv0; omega
        rw [if_neg hv1, if_pos hv2]; rfl
    · unfold fX11_restore
      repeat (first | (apply bd_eq; (focus (simp (disch := first | assumption | omega | rfl) only [i_rem, i_pred, i_addn1, i_lit, i_n1, i_add, i_mul, i_sub, i_le, i_lt, i_eq, i_ne1, n1_ne, n1_lt, n1_le, i_lt1, i_le1, bd_s, nar_bi, nar_0, nar_1, if_pos, if_neg, ↓reduceIte, reduceCtorEq, eq_self, if_true, if_false, not_true_eq_false, not_false_eq_true, mo_k, mo_fI, mo_fL, mo_pI, mo_pL, mo_z0, mo_z1, mo_fR1, mo1_a, mo1_t, mo1_n, mo_fR14, mo14_a, mo14_t, mo14_n, mo_fR15, mo15_a, mo15_t, mo15_n, mo_fR16, mo16_a, mo16_t, mo16_n, mo_fR17, mo17_a, mo17_t, mo17_n, mo_fR18, mo18_a, mo18_t, mo18_n, mo_fR19, mo19_a, mo19_t, mo19_n, mo_fR20, mo20_a, mo20_t, mo20_n, mo_fR21, mo21_a, mo21_t, mo21_n, mo_fR22, mo22_a, mo22_t, mo22_n, mo_fR25, mo25_a, mo25_t, mo25_n, mo_fR26, mo26_a, mo26_t, mo26_n, mo_fR28, mo28_a, mo28_t, mo28_n, mo_fR29, mo29_a, mo29_t, mo29_n, mo_fR30, mo30_a, mo30_t, mo30_n, mo_fR33, mo33_a, mo33_t, mo33_n, mo_fR36, mo36_a, mo36_t, mo36_n, mo_fR37, mo37_a, mo37_t, mo37_n, mo_fR40, mo40_a, mo40_t, mo40_n, m_isInF e9]; first | done | (with_reducible rfl; done))); try dsimp only) | (apply it_p; (focus (first | assumption | (simp (disch := first | assumption | omega | rfl) only [i_rem, i_pred, i_addn1, i_lit, i_n1, i_add, i_mul, i_sub, i_le, i_lt, i_eq, i_ne1, n1_ne, n1_lt, n1_le, i_lt1, i_le1, bd_s, nar_bi, nar_0, nar_1, if_pos, if_neg, ↓reduceIte, reduceCtorEq, eq_self, if_true, if_false, not_true_eq_false, not_false_eq_true, mo_k, mo_fI, mo_fL, mo_pI, mo_pL, mo_z0, mo_z1, mo_fR1, mo1_a, mo1_t, mo1_n, mo_fR14, mo14_a, mo14_t, mo14_n, mo_fR15, mo15_a, mo15_t, mo15_n, mo_fR16, mo16_a, mo16_t, mo16_n, mo_fR17, mo17_a, mo17_t, mo17_n, mo_fR18, mo18_a, mo18_t, mo18_n, mo_fR19, mo19_a, mo19_t, mo19_n, mo_fR20, mo20_a, mo20_t, mo20_n, mo_fR21, mo21_a, mo21_t, mo21_n, mo_fR22, mo22_a, mo22_t, mo22_n, mo_fR25, mo25_a, mo25_t, mo25_n, mo_fR26, mo26_a, mo26_t, mo26_n, mo_fR28, mo28_a, mo28_t, mo28_n, mo_fR29, mo29_a, mo29_t, mo29_n, mo_fR30, mo30_a, mo30_t, mo30_n, mo_fR33, mo33_a, mo33_t, mo33_n, mo_fR36, mo36_a, mo36_t, mo36_n, mo_fR37, mo37_a, mo37_t, mo37_n, mo_fR40, mo40_a, mo40_t, mo40_n, m_isInF e9]; first | done | omega)))) | (apply it_n; (focus (first | assumption | (simp (disch := first | assumption | omega | rfl) only [i_rem, i_pred, i_addn1, i_lit, i_n1, i_add, i_mul, i_sub, i_le, i_lt, i_eq, i_ne1, n1_ne, n1_lt, n1_le, i_lt1, i_le1, bd_s, nar_bi, nar_0, nar_1, if_pos, if_neg, ↓reduceIte, reduceCtorEq, eq_self, if_true, if_false, not_true_eq_false, not_false_eq_true, mo_k, mo_fI, mo_fL, mo_pI, mo_pL, mo_z0, mo_z1, mo_fR1, mo1_a, mo1_t, mo1_n, mo_fR14, mo14_a, mo14_t, mo14_n, mo_fR15, mo15_a, mo15_t, mo15_n, mo_fR16, mo16_a, mo16_t, mo16_n, mo_fR17, mo17_a, mo17_t, mo17_n, mo_fR18, mo18_a, mo18_t, mo18_n, mo_fR19, mo19_a, mo19_t, mo19_n, mo_fR20, mo20_a, mo20_t, mo20_n, mo_fR21, mo21_a, mo21_t, mo21_n, mo_fR22, mo22_a, mo22_t, mo22_n, mo_fR25, mo25_a, mo25_t, mo25_n, mo_fR26, mo26_a, mo26_t, mo26_n, mo_fR28, mo28_a, mo28_t, mo28_n, mo_fR29, mo29_a, mo29_t, mo29_n, mo_fR30, mo30_a, mo30_t, mo30_n, mo_fR33, mo33_a, mo33_t, mo33_n, mo_fR36, mo36_a, mo36_t, mo36_n, mo_fR37, mo37_a, mo37_t, mo37_n, mo_fR40, mo40_a, mo40_t, mo40_n, m_isInF e9]; first | done | omega)))))
      all_goals rfl
end
