section
variable {H : Nat → Nat} {B : Nat → Int32} {I : Nat → Nat → Int32} {L : Nat → Nat → Int64} {r : Bool} {N a : Nat}
theorem c_passHourIn (hN : 1200 < N) (hO : hOk H) (hs : RS 4 H I) (ha : isBe a = true) (hb : BR a B I) {h : Nat} (hz : B 0 = i32 h) (hh : h < 400) : ∃ J, fX2_passHourIn N 132 a (mk I L r) = some ((), mk J L r) ∧ BR a (dhS H h (I 132 1, B)).2 J ∧ FrD a I J ∧ J 132 1 = (dhS H h (I 132 1, B)).1 := by
  have o0 := hO.1; have o1 := hO.2.1; have o2 := hO.2.2.1; have o3 := hO.2.2.2.1; have o4 := hO.2.2.2.2.1; have o5 := hO.2.2.2.2.2.1
  have ha' := isBe_132 ha
  generalize hx : I 132 1 = x
  unfold fX2_passHourIn
  by_cases h0 : H 0 = 0
  · obtain ⟨J, e, g1, g2⟩ := c_passHours (L := L) (r := r) hN hO hs ha hb (n := 1) hz (by omega)
    refine ⟨J, ?_, ?_, g2.d, ?_⟩
    · simp (disch := first | assumption | omega | rfl) only [i_rem, i_pred, i_addn1, i_lit, i_n1, i_add, i_mul, i_sub, i_le, i_lt, i_eq, i_ne1, n1_ne, n1_lt, n1_le, i_lt1, i_le1, bd_s, nar_bi, nar_0, nar_1, if_pos, if_neg, ↓reduceIte, reduceCtorEq, eq_self, if_true, if_false, not_true_eq_false, not_false_eq_true, dr_k, dr_fI, dr_fL, dr_pI, dr_pL, dr_z0, dr_z1, dr_fR0, s4_k, s4_fI, s4_fL, s4_pI, s4_pL, s4_z0, s4_z1, s4_fR1, s41_a, s41_t, s41_n, s4_fR2, s42_a, s42_t, s42_n, s4_fR3, s43_a, s43_t, s43_n, s4_fR5, s45_a, s45_t, s45_n, s4_fR7, s47_a, s47_t, s47_n, s4_fR8, s48_a, s48_t, s48_n, s4_fR10, s410_a, s410_t, s410_n, s4_fR11, s411_a, s411_t, s411_n, s4_fR12, s412_a, s412_t, s412_n, s4_fR13, s413_a, s413_t, s413_n, be_k, be_fI, be_fL, be_pI, be_pL, be_z0, be_z1, be_fR0, be_fR1, be1_a, be1_t, be1_n, be_fR2, be2_a, be2_t, be2_n, be_fR3, be3_a, be3_t, be3_n, be_fR4, be4_a, be4_t, be4_n, be_fR5, be5_a, be5_t, be5_n, be_fR6, be6_a, be6_t, be6_n, be_fR7, be7_a, be7_t, be7_n, s4_nb hs, e]
    · rw [dhS, if_pos h0]; exact g1
    · rw [dhS, if_pos h0, g2 132 (by omega)]; exact hx
  · have key : ∃ J, fX2_passHourIn_L12 N 132 a N (i32 0) (mk I L r) = some (mk J L r) ∧ BR a (if H 2 = 0 then (x, B) else lwsS H (x, B) (H 1)).2 J ∧ FrD a I J ∧ J 132 1 = (if H 2 = 0 then (x, B) else lwsS H (x, B) (H 1)).1 := by
      by_cases h2 : H 2 = 0
      · refine ⟨I, ?_, by rw [if_pos h2]; exact hb, FrD.rf, by rw [if_pos h2]; exact hx⟩
        obtain ⟨N', e⟩ : ∃ N', N = N' + 1 := ⟨N - 1, by omega⟩
        have : fX2_passHourIn_L12 N 132 a (N' + 1) (i32 0) (mk I L r) = some (mk I L r) := by
          by_cases h1 : H 1 = 0
          · simp (disch := first | assumption | omega | rfl) only [i_rem, i_pred, i_addn1, i_lit, i_n1, i_add, i_mul, i_sub, i_le, i_lt, i_eq, i_ne1, n1_ne, n1_lt, n1_le, i_lt1, i_le1, bd_s, nar_bi, nar_0, nar_1, if_pos, if_neg, ↓reduceIte, reduceCtorEq, eq_self, if_true, if_false, not_true_eq_false, not_false_eq_true, dr_k, dr_fI, dr_fL, dr_pI, dr_pL, dr_z0, dr_z1, dr_fR0, s4_k, s4_fI, s4_fL, s4_pI, s4_pL, s4_z0, s4_z1, s4_fR1, s41_a, s41_t, s41_n, s4_fR2, s42_a, s42_t, s42_n, s4_fR3, s43_a, s43_t, s43_n, s4_fR5, s45_a, s45_t, s45_n, s4_fR7, s47_a, s47_t, s47_n, s4_fR8, s48_a, s48_t, s48_n, s4_fR10, s410_a, s410_t, s410_n, s4_fR11, s411_a, s411_t, s411_n, s4_fR12, s412_a, s412_t, s412_n, s4_fR13, s413_a, s413_t, s413_n, fX2_passHourIn_L12, s4_nw hs]
          · simp (disch := first | assumption | omega | rfl) only [i_rem, i_pred, i_addn1, i_lit, i_n1, i_add, i_mul, i_sub, i_le, i_lt, i_eq, i_ne1, n1_ne, n1_lt, n1_le, i_lt1, i_le1, bd_s, nar_bi, nar_0, nar_1, if_pos, if_neg, ↓reduceIte, reduceCtorEq, eq_self, if_true, if_false, not_true_eq_false, not_false_eq_true, dr_k, dr_fI, dr_fL, dr_pI, dr_pL, dr_z0, dr_z1, dr_fR0, s4_k, s4_fI, s4_fL, s4_pI, s4_pL, s4_z0, s4_z1, s4_fR1, s41_a, s41_t, s41_n, s4_fR2, s42_a, s42_t, s42_n, s4_fR3, s43_a, s43_t, s43_n, s4_fR5, s45_a, s45_t, s45_n, s4_fR7, s47_a, s47_t, s47_n, s4_fR8, s48_a, s48_t, s48_n, s4_fR10, s410_a, s410_t, s410_n, s4_fR11, s411_a, s411_t, s411_n, s4_fR12, s412_a, s412_t, s412_n, s4_fR13, s413_a, s413_t, s413_n, fX2_passHourIn_L12, s4_nw hs, s4_nl hs]
        rw [← e] at this
        exact this
      · simp only [h2, ↓reduceIte]
        obtain ⟨M, e, J, rfl, h3, h4, h5⟩ := lp_st (F := fun m u M => fX2_passHourIn_L12 N 132 a m u M) (m := H 1) (fun k M => ∃ J, M = mk J L r ∧ BR a (lwsS H (x, B) k).2 J ∧ FrD a I J ∧ J 132 1 = (lwsS H (x, B) k).1) (fun M => M) (fun m k M hk hM => by
          obtain ⟨J, rfl, h3, h4, h5⟩ := hM
          have hs' := RS_fd hs ha h4
          obtain ⟨K, e, g1, g2, g3⟩ := c_letWrite (L := L) (r := r) hN hO hs' ha h3 hk (by omega) (by omega)
          rw [h5] at g1 g3
          refine ⟨mk K L r, ?_, K, rfl, g1, h4.tr g2, g3⟩
          simp (disch := first | assumption | omega | rfl) only [i_rem, i_pred, i_addn1, i_lit, i_n1, i_add, i_mul, i_sub, i_le, i_lt, i_eq, i_ne1, n1_ne, n1_lt, n1_le, i_lt1, i_le1, bd_s, nar_bi, nar_0, nar_1, if_pos, if_neg, ↓reduceIte, reduceCtorEq, eq_self, if_true, if_false, not_true_eq_false, not_false_eq_true, dr_k, dr_fI, dr_fL, dr_pI, dr_pL, dr_z0, dr_z1, dr_fR0, s4_k, s4_fI, s4_fL, s4_pI, s4_pL, s4_z0, s4_z1, s4_fR1, s41_a, s41_t, s41_n, s4_fR2, s42_a, s42_t, s42_n, s4_fR3, s43_a, s43_t, s43_n, s4_fR5, s45_a, s45_t, s45_n, s4_fR7, s47_a, s47_t, s47_n, s4_fR8, s48_a, s48_t, s48_n, s4_fR10, s410_a, s410_t, s410_n, s4_fR11, s411_a, s411_t, s411_n, s4_fR12, s412_a, s412_t, s412_n, s4_fR13, s413_a, s413_t, s413_n, fX2_passHourIn_L12, s4_nw hs', s4_nl hs', e]) (fun m M hM => by
          obtain ⟨J, rfl, h3, h4, h5⟩ := hM
          have hs' := RS_fd hs ha h4
          simp (disch := first | assumption | omega | rfl) only [i_rem, i_pred, i_addn1, i_lit, i_n1, i_add, i_mul, i_sub, i_le, i_lt, i_eq, i_ne1, n1_ne, n1_lt, n1_le, i_lt1, i_le1, bd_s, nar_bi, nar_0, nar_1, if_pos, if_neg, ↓reduceIte, reduceCtorEq, eq_self, if_true, if_false, not_true_eq_false, not_false_eq_true, dr_k, dr_fI, dr_fL, dr_pI, dr_pL, dr_z0, dr_z1, dr_fR0, s4_k, s4_fI, s4_fL, s4_pI, s4_pL, s4_z0, s4_z1, s4_fR1, s41_a, s41_t, s41_n, s4_fR2, s42_a, s42_t, s42_n, s4_fR3, s43_a, s43_t, s43_n, s4_fR5, s45_a, s45_t, s45_n, s4_fR7, s47_a, s47_t, s47_n, s4_fR8, s48_a, s48_t, s48_n, s4_fR10, s410_a, s410_t, s410_n, s4_fR11, s411_a, s411_t, s411_n, s4_fR12, s412_a, s412_t, s412_n, s4_fR13, s413_a, s413_t, s413_n, fX2_passHourIn_L12, s4_nw hs']) (n := N) (by omega) (s := mk I L r) ⟨I, rfl, hb, FrD.rf, hx⟩
        exact ⟨J, e, h3, h4, h5⟩
    obtain ⟨J, e, g1, g2, g3⟩ := key
    have hd : dhS H h (x, B) = ((ltS H (if H 2 = 0 then (x, B) else lwsS H (x, B) (H 1))).1, hr1 H (ltS H (if H 2 = 0 then (x, B) else lwsS H (x, B) (H 1))).2 h) := by
      rw [dhS, if_neg h0]; split <;> rfl
    have hq0 : (if H 2 = 0 then (x, B) else lwsS H (x, B) (H 1)).2 0 = i32 h := by
      split
      · exact hz
      · exact (lws_0 _).trans hz
    rw [hd]
    generalize (if H 2 = 0 then (x, B) else lwsS H (x, B) (H 1)) = q at g1 g3 hq0
    have hs' := RS_fd hs ha g2
    obtain ⟨K, e2, k1, k2, k3⟩ := c_letTread (N := N) (L := L) (r := r) hO hs' ha g1 (by omega)
    rw [g3] at k1 k3
    have hs2 := RS_fd hs' ha k2
    have hz2 : (ltS H (q.1, q.2)).2 0 = i32 h := td1_0.trans hq0
    obtain ⟨K2, e3, m1, m2⟩ := c_passHours (L := L) (r := r) hN hO hs2 ha k1 (n := 1) hz2 (by omega)
    refine ⟨K2, ?_, m1, (g2.tr k2).tr m2.d, ?_⟩
    · simp (disch := first | assumption | omega | rfl) only [i_rem, i_pred, i_addn1, i_lit, i_n1, i_add, i_mul, i_sub, i_le, i_lt, i_eq, i_ne1, n1_ne, n1_lt, n1_le, i_lt1, i_le1, bd_s, nar_bi, nar_0, nar_1, if_pos, if_neg, ↓reduceIte, reduceCtorEq, eq_self, if_true, if_false, not_true_eq_false, not_false_eq_true, dr_k, dr_fI, dr_fL, dr_pI, dr_pL, dr_z0, dr_z1, dr_fR0, s4_k, s4_fI, s4_fL, s4_pI, s4_pL, s4_z0, s4_z1, s4_fR1, s41_a, s41_t, s41_n, s4_fR2, s42_a, s42_t, s42_n, s4_fR3, s43_a, s43_t, s43_n, s4_fR5, s45_a, s45_t, s45_n, s4_fR7, s47_a, s47_t, s47_n, s4_fR8, s48_a, s48_t, s48_n, s4_fR10, s410_a, s410_t, s410_n, s4_fR11, s411_a, s411_t, s411_n, s4_fR12, s412_a, s412_t, s412_n, s4_fR13, s413_a, s413_t, s413_n, be_k, be_fI, be_fL, be_pI, be_pL, be_z0, be_z1, be_fR0, be_fR1, be1_a, be1_t, be1_n, be_fR2, be2_a, be2_t, be2_n, be_fR3, be3_a, be3_t, be3_n, be_fR4, be4_a, be4_t, be4_n, be_fR5, be5_a, be5_t, be5_n, be_fR6, be6_a, be6_t, be6_n, be_fR7, be7_a, be7_t, be7_n, s4_nb hs, e, fX2_passHourIn_J45, e2, e3]
    · rw [m2 132 (by omega)]; exact k3
/-! the reference -/
theorem m_whyWrite (hO : hOk H) (hm : MR H B I) {w b p : Nat} (hw : w < H 1) (hbb : b < H 0) (hp : p < H (11 + b)) : fX11_whyWrite N 186 (i32 w) (i32 b) (i32 p) (mk I L r) = some (if B (10 + w) < i32 (H (25 + w)) then (if B (20 + (12 * b + p)) = n1 then i32 0 else i32 2) else i32 1, mk I L r) := by
  have o0 := hO.1; have o1 := hO.2.1; have o2 := hO.2.2.1; have o3 := hO.2.2.2.1; have o4 := hO.2.2.2.2.1; have o5 := hO.2.2.2.2.2.1; have wd_b := hO.2.2.2.2.2.2.1 b (by assumption)
  unfold fX11_whyWrite
  simp (disch := first | assumption | omega | rfl) only [i_rem, i_pred, i_addn1, i_lit, i_n1, i_add, i_mul, i_sub, i_le, i_lt, i_eq, i_ne1, n1_ne, n1_lt, n1_le, i_lt1, i_le1, bd_s, nar_bi, nar_0, nar_1, if_pos, if_neg, ↓reduceIte, reduceCtorEq, eq_self, if_true, if_false, not_true_eq_false, not_false_eq_true, mo_k, mo_fI, mo_fL, mo_pI, mo_pL, mo_z0, mo_z1, mo_fR1, mo1_a, mo1_t, mo1_n, mo_fR14, mo14_a, mo14_t, mo14_n, mo_fR15, mo15_a, mo15_t, mo15_n, mo_fR16, mo16_a, mo16_t, mo16_n, mo_fR17, mo17_a, mo17_t, mo17_n, mo_fR18, mo18_a, mo18_t, mo18_n, mo_fR19, mo19_a, mo19_t, mo19_n, mo_fR20, mo20_a, mo20_t, mo20_n, mo_fR21, mo21_a, mo21_t, mo21_n, mo_fR22, mo22_a, mo22_t, mo22_n, mo_fR25, mo25_a, mo25_t, mo25_n, mo_fR26, mo26_a, mo26_t, mo26_n, mo_fR28, mo28_a, mo28_t, mo28_n, mo_fR29, mo29_a, mo29_t, mo29_n, mo_fR30, mo30_a, mo30_t, mo30_n, mo_fR33, mo33_a, mo33_t, mo33_n, mo_fR36, mo36_a, mo36_t, mo36_n, mo_fR37, mo37_a, mo37_t, mo37_n, mo_fR40, mo40_a, mo40_t, mo40_n, m_wr hm, m_pc hm, m_signAt hm]
  split
  · split <;> rfl
  · rfl
theorem m_whyTread (hO : hOk H) (hm : MR H B I) {b p : Nat} (hbb : b < H 0) (hp : p < H (11 + b)) : fX11_whyTread N 186 (i32 b) (i32 p) (mk I L r) = some (if B (20 + (12 * b + p)) = n1 then i32 1 else i32 0, mk I L r) := by
  have o0 := hO.1; have o1 := hO.2.1; have o2 := hO.2.2.1; have o3 := hO.2.2.2.1; have o4 := hO.2.2.2.2.1; have o5 := hO.2.2.2.2.2.1; have wd_b := hO.2.2.2.2.2.2.1 b (by assumption)
  unfold fX11_whyTread
  simp (disch := first | assumption | omega | rfl) only [i_rem, i_pred, i_addn1, i_lit, i_n1, i_add, i_mul, i_sub, i_le, i_lt, i_eq, i_ne1, n1_ne, n1_lt, n1_le, i_lt1, i_le1, bd_s, nar_bi, nar_0, nar_1, if_pos, if_neg, ↓reduceIte, reduceCtorEq, eq_self, if_true, if_false, not_true_eq_false, not_false_eq_true, mo_k, mo_fI, mo_fL, mo_pI, mo_pL, mo_z0, mo_z1, mo_fR1, mo1_a, mo1_t, mo1_n, mo_fR14, mo14_a, mo14_t, mo14_n, mo_fR15, mo15_a, mo15_t, mo15_n, mo_fR16, mo16_a, mo16_t, mo16_n, mo_fR17, mo17_a, mo17_t, mo17_n, mo_fR18, mo18_a, mo18_t, mo18_n, mo_fR19, mo19_a, mo19_t, mo19_n, mo_fR20, mo20_a, mo20_t, mo20_n, mo_fR21, mo21_a, mo21_t, mo21_n, mo_fR22, mo22_a, mo22_t, mo22_n, mo_fR25, mo25_a, mo25_t, mo25_n, mo_fR26, mo26_a, mo26_t, mo26_n, mo_fR28, mo28_a, mo28_t, mo28_n, mo_fR29, mo29_a, mo29_t, mo29_n, mo_fR30, mo30_a, mo30_t, mo30_n, mo_fR33, mo33_a, mo33_t, mo33_n, mo_fR36, mo36_a, mo36_t, mo36_n, mo_fR37, mo37_a, mo37_t, mo37_n, mo_fR40, mo40_a, mo40_t, mo40_n, m_signAt hm]
  split <;> rfl
theorem m_draw {n : Nat} (hn : 0 < n) (hn2 : n < 100) : fX11_draw N 186 (i32 n) (mk I L r) = some (i32 (dn (dr (I 186 35)) % n), mk (up I 186 35 (dr (I 186 35))) L r) := by
  have hd := dn_lt (x := dr (I 186 35))
  have e : I 186 35 * i32 1103515245 + i32 12345 = dr (I 186 35) := rfl
  unfold fX11_draw
  simp (disch := first | assumption | omega | rfl) only [i_rem, i_pred, i_addn1, i_lit, i_n1, i_add, i_mul, i_sub, i_le, i_lt, i_eq, i_ne1, n1_ne, n1_lt, n1_le, i_lt1, i_le1, bd_s, nar_bi, nar_0, nar_1, if_pos, if_neg, ↓reduceIte, reduceCtorEq, eq_self, if_true, if_false, not_true_eq_false, not_false_eq_true, mo_k, mo_fI, mo_fL, mo_pI, mo_pL, mo_z0, mo_z1, mo_fR1, mo1_a, mo1_t, mo1_n, mo_fR14, mo14_a, mo14_t, mo14_n, mo_fR15, mo15_a, mo15_t, mo15_n, mo_fR16, mo16_a, mo16_t, mo16_n, mo_fR17, mo17_a, mo17_t, mo17_n, mo_fR18, mo18_a, mo18_t, mo18_n, mo_fR19, mo19_a, mo19_t, mo19_n, mo_fR20, mo20_a, mo20_t, mo20_n, mo_fR21, mo21_a, mo21_t, mo21_n, mo_fR22, mo22_a, mo22_t, mo22_n, mo_fR25, mo25_a, mo25_t, mo25_n, mo_fR26, mo26_a, mo26_t, mo26_n, mo_fR28, mo28_a, mo28_t, mo28_n, mo_fR29, mo29_a, mo29_t, mo29_n, mo_fR30, mo30_a, mo30_t, mo30_n, mo_fR33, mo33_a, mo33_t, mo33_n, mo_fR36, mo36_a, mo36_t, mo36_n, mo_fR37, mo37_a, mo37_t, mo37_n, mo_fR40, mo40_a, mo40_t, mo40_n, e, up_at, i_shr8]
theorem MR_off {q k : Nat} {v : Int32} (h : MR H B I) (hq : q ≠ 188) : MR H B (up I q k v) := by
  unfold MR at *
  rw [up_row (fun z => hq z.symm)]; exact h
/-- the frame of the reference's draws -/
def FrE (I J : Nat → Nat → Int32) : Prop := (∀ q, q ≠ 186 → q ≠ 188 → J q = I q) ∧ (∀ k, k ≠ 35 → J 186 k = I 186 k) ∧ ∀ k, 199 ≤ k → J 188 k = I 188 k
theorem FrE.rf : FrE I I := ⟨fun _ _ _ => rfl, fun _ _ => rfl, fun _ _ => rfl⟩
theorem FrE.tr {I J K : Nat → Nat → Int32} (h : FrE I J) (g : FrE J K) : FrE I K := ⟨fun q h1 h2 => (g.1 q h1 h2).trans (h.1 q h1 h2), fun k hk => (g.2.1 k hk).trans (h.2.1 k hk), fun k hk => (g.2.2 k hk).trans (h.2.2 k hk)⟩
theorem FrE_up {v : Int32} : FrE I (up I 186 35 v) := ⟨fun _ h _ => up_row h, fun _ h => up_ofk h, fun _ _ => up_off (by omega)⟩
theorem Fq.e {J : Nat → Nat → Int32} (h : Fq 188 I J) : FrE I J := ⟨fun q _ h2 => h.1 q h2, fun k _ => by rw [h.1 186 (by omega)], fun k hk => h.2 k hk⟩
theorem m_drawsTread (hO : hOk H) (hm : MR H B I) (h0 : 0 < H 0) : ∃ J, fX11_drawsTread N 186 (mk I L r) = some ((), mk J L r) ∧ MR H (ltS H (I 186 35, B)).2 J ∧ FrE I J ∧ J 186 35 = (ltS H (I 186 35, B)).1 := by
  have o0 := hO.1; have o1 := hO.2.1; have o2 := hO.2.2.1; have o3 := hO.2.2.2.1; have o4 := hO.2.2.2.2.1; have o5 := hO.2.2.2.2.2.1
  generalize hx : I 186 35 = x
  generalize hy : dr x = y
  generalize hz : dr y = z
  have hbn := Nat.mod_lt (dn y) h0
  have hpn := Nat.mod_lt (dn z) (show 12 > 0 by omega)
  generalize hbb : dn y % H 0 = b at hbn
  generalize hpp : dn z % 12 = p at hpn
  have wd_b := hO.2.2.2.2.2.2.1 b (by assumption)
  have hm2 : MR H B (up (up I 186 35 y) 186 35 z) := MR_off (MR_off hm (by omega)) (by omega)
  have hlt : ltS H (x, B) = (z, td1 H b p B) := by simp only [ltS, hy, hz, hbb, hpp]
  rw [hlt]
  unfold fX11_drawsTread
  simp (disch := first | assumption | omega | rfl) only [i_rem, i_pred, i_addn1, i_lit, i_n1, i_add, i_mul, i_sub, i_le, i_lt, i_eq, i_ne1, n1_ne, n1_lt, n1_le, i_lt1, i_le1, bd_s, nar_bi, nar_0, nar_1, if_pos, if_neg, ↓reduceIte, reduceCtorEq, eq_self, if_true, if_false, not_true_eq_false, not_false_eq_true, mo_k, mo_fI, mo_fL, mo_pI, mo_pL, mo_z0, mo_z1, mo_fR1, mo1_a, mo1_t, mo1_n, mo_fR14, mo14_a, mo14_t, mo14_n, mo_fR15, mo15_a, mo15_t, mo15_n, mo_fR16, mo16_a, mo16_t, mo16_n, mo_fR17, mo17_a, mo17_t, mo17_n, mo_fR18, mo18_a, mo18_t, mo18_n, mo_fR19, mo19_a, mo19_t, mo19_n, mo_fR20, mo20_a, mo20_t, mo20_n, mo_fR21, mo21_a, mo21_t, mo21_n, mo_fR22, mo22_a, mo22_t, mo22_n, mo_fR25, mo25_a, mo25_t, mo25_n, mo_fR26, mo26_a, mo26_t, mo26_n, mo_fR28, mo28_a, mo28_t, mo28_n, mo_fR29, mo29_a, mo29_t, mo29_n, mo_fR30, mo30_a, mo30_t, mo30_n, mo_fR33, mo33_a, mo33_t, mo33_n, mo_fR36, mo36_a, mo36_t, mo36_n, mo_fR37, mo37_a, mo37_t, mo37_n, mo_fR40, mo40_a, mo40_t, mo40_n, m_nb hm, m_draw, hx, hy, up_at, hz, hbb, hpp, m_isPlace hO hm2, bi_z]
  by_cases hp : p < H (11 + b)
  · simp (disch := first | assumption | omega | rfl) only [i_rem, i_pred, i_addn1, i_lit, i_n1, i_add, i_mul, i_sub, i_le, i_lt, i_eq, i_ne1, n1_ne, n1_lt, n1_le, i_lt1, i_le1, bd_s, nar_bi, nar_0, nar_1, if_pos, if_neg, ↓reduceIte, reduceCtorEq, eq_self, if_true, if_false, not_true_eq_false, not_false_eq_true, mo_k, mo_fI, mo_fL, mo_pI, mo_pL, mo_z0, mo_z1, mo_fR1, mo1_a, mo1_t, mo1_n, mo_fR14, mo14_a, mo14_t, mo14_n, mo_fR15, mo15_a, mo15_t, mo15_n, mo_fR16, mo16_a, mo16_t, mo16_n, mo_fR17, mo17_a, mo17_t, mo17_n, mo_fR18, mo18_a, mo18_t, mo18_n, mo_fR19, mo19_a, mo19_t, mo19_n, mo_fR20, mo20_a, mo20_t, mo20_n, mo_fR21, mo21_a, mo21_t, mo21_n, mo_fR22, mo22_a, mo22_t, mo22_n, mo_fR25, mo25_a, mo25_t, mo25_n, mo_fR26, mo26_a, mo26_t, mo26_n, mo_fR28, mo28_a, mo28_t, mo28_n, mo_fR29, mo29_a, mo29_t, mo29_n, mo_fR30, mo30_a, mo30_t, mo30_n, mo_fR33, mo33_a, mo33_t, mo33_n, mo_fR36, mo36_a, mo36_t, mo36_n, mo_fR37, mo37_a, mo37_t, mo37_n, mo_fR40, mo40_a, mo40_t, mo40_n, hp, decide_true, m_whyTread hO hm2]
    by_cases h1 : B (20 + (12 * b + p)) = n1
    · refine ⟨up (up I 186 35 y) 186 35 z, ?_, ?_, FrE_up.tr FrE_up, by simp (disch := omega) only [up_at, up_off, upL_at, upL_off, if_pos, if_neg, if_true, true_or, or_true, true_and, and_true]⟩
      · simp (disch := first | assumption | omega | rfl) only [i_rem, i_pred, i_addn1, i_lit, i_n1, i_add, i_mul, i_sub, i_le, i_lt, i_eq, i_ne1, n1_ne, n1_lt, n1_le, i_lt1, i_le1, bd_s, nar_bi, nar_0, nar_1, if_pos, if_neg, ↓reduceIte, reduceCtorEq, eq_self, if_true, if_false, not_true_eq_false, not_false_eq_true, mo_k, mo_fI, mo_fL, mo_pI, mo_pL, mo_z0, mo_z1, mo_fR1, mo1_a, mo1_t, mo1_n, mo_fR14, mo14_a, mo14_t, mo14_n, mo_fR15, mo15_a, mo15_t, mo15_n, mo_fR16, mo16_a, mo16_t, mo16_n, mo_fR17, mo17_a, mo17_t, mo17_n, mo_fR18, mo18_a, mo18_t, mo18_n, mo_fR19, mo19_a, mo19_t, mo19_n, mo_fR20, mo20_a, mo20_t, mo20_n, mo_fR21, mo21_a, mo21_t, mo21_n, mo_fR22, mo22_a, mo22_t, mo22_n, mo_fR25, mo25_a, mo25_t, mo25_n, mo_fR26, mo26_a, mo26_t, mo26_n, mo_fR28, mo28_a, mo28_t, mo28_n, mo_fR29, mo29_a, mo29_t, mo29_n, mo_fR30, mo30_a, mo30_t, mo30_n, mo_fR33, mo33_a, mo33_t, mo33_n, mo_fR36, mo36_a, mo36_t, mo36_n, mo_fR37, mo37_a, mo37_t, mo37_n, mo_fR40, mo40_a, mo40_t, mo40_n, h1]
      · show MR H (td1 H b p B) _
        rw [td1, if_neg (fun z => z.2 h1)]; exact hm2
    · obtain ⟨J, e, g1, g2⟩ := m_doTread (N := N) (L := L) (r := r) hO hm2 (b := b) (p := p) (by omega)
      refine ⟨J, ?_, ?_, (FrE_up.tr FrE_up).tr g2.e, ?_⟩
      · simp (disch := first | assumption | omega | rfl) only [i_rem, i_pred, i_addn1, i_lit, i_n1, i_add, i_mul, i_sub, i_le, i_lt, i_eq, i_ne1, n1_ne, n1_lt, n1_le, i_lt1, i_le1, bd_s, nar_bi, nar_0, nar_1, if_pos, if_neg, ↓reduceIte, reduceCtorEq, eq_self, if_true, if_false, not_true_eq_false, not_false_eq_true, mo_k, mo_fI, mo_fL, mo_pI, mo_pL, mo_z0, mo_z1, mo_fR1, mo1_a, mo1_t, mo1_n, mo_fR14, mo14_a, mo14_t, mo14_n, mo_fR15, mo15_a, mo15_t, mo15_n, mo_fR16, mo16_a, mo16_t, mo16_n, mo_fR17, mo17_a, mo17_t, mo17_n, mo_fR18, mo18_a, mo18_t, mo18_n, mo_fR19, mo19_a, mo19_t, mo19_n, mo_fR20, mo20_a, mo20_t, mo20_n, mo_fR21, mo21_a, mo21_t, mo21_n, mo_fR22, mo22_a, mo22_t, mo22_n, mo_fR25, mo25_a, mo25_t, mo25_n, mo_fR26, mo26_a, mo26_t, mo26_n, mo_fR28, mo28_a, mo28_t, mo28_n, mo_fR29, mo29_a, mo29_t, mo29_n, mo_fR30, mo30_a, mo30_t, mo30_n, mo_fR33, mo33_a, mo33_t, mo33_n, mo_fR36, mo36_a, mo36_t, mo36_n, mo_fR37, mo37_a, mo37_t, mo37_n, mo_fR40, mo40_a, mo40_t, mo40_n, h1, e]
      · show MR H (td1 H b p B) _
        rw [td1, if_pos ⟨hp, h1⟩]; exact g1
      · rw [g2.1 186 (by omega)]; simp (disch := omega) only [up_at, up_off, upL_at, upL_off, if_pos, if_neg, if_true, true_or, or_true, true_and, and_true]
  · refine ⟨up (up I 186 35 y) 186 35 z, ?_, ?_, FrE_up.tr FrE_up, by simp (disch := omega) only [up_at, up_off, upL_at, upL_off, if_pos, if_neg, if_true, true_or, or_true, true_and, and_true]⟩
    · simp (disch := first | assumption | omega | rfl) only [i_rem, i_pred, i_addn1, i_lit, i_n1, i_add, i_mul, i_sub, i_le, i_lt, i_eq, i_ne1, n1_ne, n1_lt, n1_le, i_lt1, i_le1, bd_s, nar_bi, nar_0, nar_1, if_pos, if_neg, ↓reduceIte, reduceCtorEq, eq_self, if_true, if_false, not_true_eq_false, not_false_eq_true, mo_k, mo_fI, mo_fL, mo_pI, mo_pL, mo_z0, mo_z1, mo_fR1, mo1_a, mo1_t, mo1_n, mo_fR14, mo14_a, mo14_t, mo14_n, mo_fR15, mo15_a, mo15_t, mo15_n, mo_fR16, mo16_a, mo16_t, mo16_n, mo_fR17, mo17_a, mo17_t, mo17_n, mo_fR18, mo18_a, mo18_t, mo18_n, mo_fR19, mo19_a, mo19_t, mo19_n, mo_fR20, mo20_a, mo20_t, mo20_n, mo_fR21, mo21_a, mo21_t, mo21_n, mo_fR22, mo22_a, mo22_t, mo22_n, mo_fR25, mo25_a, mo25_t, mo25_n, mo_fR26, mo26_a, mo26_t, mo26_n, mo_fR28, mo28_a, mo28_t, mo28_n, mo_fR29, mo29_a, mo29_t, mo29_n, mo_fR30, mo30_a, mo30_t, mo30_n, mo_fR33, mo33_a, mo33_t, mo33_n, mo_fR36, mo36_a, mo36_t, mo36_n, mo_fR37, mo37_a, mo37_t, mo37_n, mo_fR40, mo40_a, mo40_t, mo40_n, hp, decide_false]
    · show MR H (td1 H b p B) _
      rw [td1, if_neg (fun z => hp z.1)]; exact hm2
theorem lwB_end {w l b p k : Nat} (h : H (11 + b) ≤ p + k) : ∀ d, lwB H w l b p B (k + d) = lwB H w l b p B k := by
  intro d
  induction d with
  | zero => rfl
  | succ d ih =>
    have e : lwB H w l b p B (k + (d + 1)) = wr1 H w b (p + (k + d)) (sg H l (k + d)) (lwB H w l b p B (k + d)) := rfl
    rw [e, wr1, if_neg (fun z => by omega)]; exact ih
theorem m_drawsForL (hN : 1200 < N) (hO : hOk H) (hm : MR H B I) {w l b p : Nat} (hw : w < H 1) (hl : l < H 2) (hbb : b < H 0) (hp : p < 12) : ∃ J, fX11_drawsFor_L33 N 186 (i32 w) (i32 l) (i32 b) (i32 p) N (i32 0) (mk I L r) = some (mk J L r) ∧ MR H (lwB H w l b p B (lg H l)) J ∧ Fq 188 I J := by
  have o0 := hO.1; have o1 := hO.2.1; have o2 := hO.2.2.1; have o3 := hO.2.2.2.1; have o4 := hO.2.2.2.2.1; have o5 := hO.2.2.2.2.2.1; have lg2_l := lg_2 (H := H) (l := l); have lg3_l := lg_3 (H := H) (l := l); have wd_b := hO.2.2.2.2.2.2.1 b (by assumption)
  obtain ⟨M, e, J, rfl, h1, h2⟩ := lp_in (F := fun m (s : Int32 × Mem) => fX11_drawsFor_L33 N 186 (i32 w) (i32 l) (i32 b) (i32 p) m s.1 s.2) (m := lg H l) (fun k s => s.1 = i32 k ∧ ∃ J, s.2 = mk J L r ∧ MR H (lwB H w l b p B k) J ∧ Fq 188 I J) (fun M => ∃ J, M = mk J L r ∧ MR H (lwB H w l b p B (lg H l)) J ∧ Fq 188 I J) (fun m k s hk hM => by
    obtain ⟨hs1, J, hs2, h1, h2⟩ := hM
    obtain ⟨s1, s2⟩ := s
    simp only at hs1 hs2
    subst hs1; subst hs2
    have hst : lwB H w l b p B (k + 1) = wr1 H w b (p + k) (sg H l k) (lwB H w l b p B k) := rfl
    by_cases hkl : k = lg H l
    · left
      refine ⟨mk J L r, ?_, J, rfl, by rw [← hkl]; exact h1, h2⟩
      simp (disch := first | assumption | omega | rfl) only [i_rem, i_pred, i_addn1, i_lit, i_n1, i_add, i_mul, i_sub, i_le, i_lt, i_eq, i_ne1, n1_ne, n1_lt, n1_le, i_lt1, i_le1, bd_s, nar_bi, nar_0, nar_1, if_pos, if_neg, ↓reduceIte, reduceCtorEq, eq_self, if_true, if_false, not_true_eq_false, not_false_eq_true, mo_k, mo_fI, mo_fL, mo_pI, mo_pL, mo_z0, mo_z1, mo_fR1, mo1_a, mo1_t, mo1_n, mo_fR14, mo14_a, mo14_t, mo14_n, mo_fR15, mo15_a, mo15_t, mo15_n, mo_fR16, mo16_a, mo16_t, mo16_n, mo_fR17, mo17_a, mo17_t, mo17_n, mo_fR18, mo18_a, mo18_t, mo18_n, mo_fR19, mo19_a, mo19_t, mo19_n, mo_fR20, mo20_a, mo20_t, mo20_n, mo_fR21, mo21_a, mo21_t, mo21_n, mo_fR22, mo22_a, mo22_t, mo22_n, mo_fR25, mo25_a, mo25_t, mo25_n, mo_fR26, mo26_a, mo26_t, mo26_n, mo_fR28, mo28_a, mo28_t, mo28_n, mo_fR29, mo29_a, mo29_t, mo29_n, mo_fR30, mo30_a, mo30_t, mo30_n, mo_fR33, mo33_a, mo33_t, mo33_n, mo_fR36, mo36_a, mo36_t, mo36_n, mo_fR37, mo37_a, mo37_t, mo37_n, mo_fR40, mo40_a, mo40_t, mo40_n, fX11_drawsFor_L33, m_longOf hO h1]
    · by_cases hq : p + k < H (11 + b)
      · right
        refine ⟨by omega, ?_⟩
        generalize lwB H w l b p B k = C at h1 hst
        by_cases hc : C (10 + w) < i32 (H (25 + w)) ∧ C (20 + (12 * b + (p + k))) = n1
        · obtain ⟨K, e, h3, h4⟩ := m_doWrite (N := N) (L := L) (r := r) (s := sg H l k) (w := w) (b := b) (p := p + k) hO h1 (by omega) (by omega) sg_9
          refine ⟨(i32 (k + 1), mk K L r), ?_, rfl, K, rfl, ?_, h2.tr h4⟩
          · simp (disch := first | assumption | omega | rfl) only [i_rem, i_pred, i_addn1, i_lit, i_n1, i_add, i_mul, i_sub, i_le, i_lt, i_eq, i_ne1, n1_ne, n1_lt, n1_le, i_lt1, i_le1, bd_s, nar_bi, nar_0, nar_1, if_pos, if_neg, ↓reduceIte, reduceCtorEq, eq_self, if_true, if_false, not_true_eq_false, not_false_eq_true, mo_k, mo_fI, mo_fL, mo_pI, mo_pL, mo_z0, mo_z1, mo_fR1, mo1_a, mo1_t, mo1_n, mo_fR14, mo14_a, mo14_t, mo14_n, mo_fR15, mo15_a, mo15_t, mo15_n, mo_fR16, mo16_a, mo16_t, mo16_n, mo_fR17, mo17_a, mo17_t, mo17_n, mo_fR18, mo18_a, mo18_t, mo18_n, mo_fR19, mo19_a, mo19_t, mo19_n, mo_fR20, mo20_a, mo20_t, mo20_n, mo_fR21, mo21_a, mo21_t, mo21_n, mo_fR22, mo22_a, mo22_t, mo22_n, mo_fR25, mo25_a, mo25_t, mo25_n, mo_fR26, mo26_a, mo26_t, mo26_n, mo_fR28, mo28_a, mo28_t, mo28_n, mo_fR29, mo29_a, mo29_t, mo29_n, mo_fR30, mo30_a, mo30_t, mo30_n, mo_fR33, mo33_a, mo33_t, mo33_n, mo_fR36, mo36_a, mo36_t, mo36_n, mo_fR37, mo37_a, mo37_t, mo37_n, mo_fR40, mo40_a, mo40_t, mo40_n, fX11_drawsFor_L33, m_longOf hO h1, m_isPlace hO h1, hq, decide_true, bi_z, m_whyWrite hO h1, why_0, hc, m_signOf hN hO h1, e]
          · rw [hst, wr1, if_pos ⟨hq, hc⟩]; exact h3
        · refine ⟨(i32 (k + 1), mk J L r), ?_, rfl, J, rfl, ?_, h2⟩
          · simp (disch := first | assumption | omega | rfl) only [i_rem, i_pred, i_addn1, i_lit, i_n1, i_add, i_mul, i_sub, i_le, i_lt, i_eq, i_ne1, n1_ne, n1_lt, n1_le, i_lt1, i_le1, bd_s, nar_bi, nar_0, nar_1, if_pos, if_neg, ↓reduceIte, reduceCtorEq, eq_self, if_true, if_false, not_true_eq_false, not_false_eq_true, mo_k, mo_fI, mo_fL, mo_pI, mo_pL, mo_z0, mo_z1, mo_fR1, mo1_a, mo1_t, mo1_n, mo_fR14, mo14_a, mo14_t, mo14_n, mo_fR15, mo15_a, mo15_t, mo15_n, mo_fR16, mo16_a, mo16_t, mo16_n, mo_fR17, mo17_a, mo17_t, mo17_n, mo_fR18, mo18_a, mo18_t, mo18_n, mo_fR19, mo19_a, mo19_t, mo19_n, mo_fR20, mo20_a, mo20_t, mo20_n, mo_fR21, mo21_a, mo21_t, mo21_n, mo_fR22, mo22_a, mo22_t, mo22_n, mo_fR25, mo25_a, mo25_t, mo25_n, mo_fR26, mo26_a, mo26_t, mo26_n, mo_fR28, mo28_a, mo28_t, mo28_n, mo_fR29, mo29_a, mo29_t, mo29_n, mo_fR30, mo30_a, mo30_t, mo30_n, mo_fR33, mo33_a, mo33_t, mo33_n, mo_fR36, mo36_a, mo36_t, mo36_n, mo_fR37, mo37_a, mo37_t, mo37_n, mo_fR40, mo40_a, mo40_t, mo40_n, fX11_drawsFor_L33, m_longOf hO h1, m_isPlace hO h1, hq, decide_true, bi_z, m_whyWrite hO h1, why_0, hc]
          · rw [hst, wr1, if_neg (fun z => hc z.2)]; exact h1
      · left
        refine ⟨mk J L r, ?_, J, rfl, ?_, h2⟩
        · simp (disch := first | assumption | omega | rfl) only [i_rem, i_pred, i_addn1, i_lit, i_n1, i_add, i_mul, i_sub, i_le, i_lt, i_eq, i_ne1, n1_ne, n1_lt, n1_le, i_lt1, i_le1, bd_s, nar_bi, nar_0, nar_1, if_pos, if_neg, ↓reduceIte, reduceCtorEq, eq_self, if_true, if_false, not_true_eq_false, not_false_eq_true, mo_k, mo_fI, mo_fL, mo_pI, mo_pL, mo_z0, mo_z1, mo_fR1, mo1_a, mo1_t, mo1_n, mo_fR14, mo14_a, mo14_t, mo14_n, mo_fR15, mo15_a, mo15_t, mo15_n, mo_fR16, mo16_a, mo16_t, mo16_n, mo_fR17, mo17_a, mo17_t, mo17_n, mo_fR18, mo18_a, mo18_t, mo18_n, mo_fR19, mo19_a, mo19_t, mo19_n, mo_fR20, mo20_a, mo20_t, mo20_n, mo_fR21, mo21_a, mo21_t, mo21_n, mo_fR22, mo22_a, mo22_t, mo22_n, mo_fR25, mo25_a, mo25_t, mo25_n, mo_fR26, mo26_a, mo26_t, mo26_n, mo_fR28, mo28_a, mo28_t, mo28_n, mo_fR29, mo29_a, mo29_t, mo29_n, mo_fR30, mo30_a, mo30_t, mo30_n, mo_fR33, mo33_a, mo33_t, mo33_n, mo_fR36, mo36_a, mo36_t, mo36_n, mo_fR37, mo37_a, mo37_t, mo37_n, mo_fR40, mo40_a, mo40_t, mo40_n, fX11_drawsFor_L33, m_longOf hO h1, m_isPlace hO h1, hq, decide_false, bi_z]
        · have := lwB_end (H := H) (B := B) (w := w) (l := l) (b := b) (p := p) (k := k) (by omega) (lg H l - k)
          rw [show k + (lg H l - k) = lg H l by omega] at this
          rw [this]; exact h1) (n := N) (by omega) (s := (i32 0, mk I L r)) ⟨rfl, I, rfl, hm, Fq.rf⟩
  exact ⟨J, e, h1, h2⟩
theorem m_drawsFor (hN : 1200 < N) (hO : hOk H) (hm : MR H B I) {w : Nat} (hw : w < H 1) (h0 : 0 < H 0) (h2 : 0 < H 2) : ∃ J, fX11_drawsFor N 186 (i32 w) (mk I L r) = some ((), mk J L r) ∧ MR H (lwS H w (I 186 35, B)).2 J ∧ FrE I J ∧ J 186 35 = (lwS H w (I 186 35, B)).1 := by
  have o0 := hO.1; have o1 := hO.2.1; have o2 := hO.2.2.1; have o3 := hO.2.2.2.1; have o4 := hO.2.2.2.2.1; have o5 := hO.2.2.2.2.2.1
  generalize hx : I 186 35 = x
  generalize hx1 : dr x = x1
  generalize hx2 : dr x1 = x2
  generalize hx3 : dr x2 = x3
  have hln := Nat.mod_lt (dn x1) h2
  have hbn := Nat.mod_lt (dn x2) h0
  have hpn := Nat.mod_lt (dn x3) (show 12 > 0 by omega)
  generalize hll : dn x1 % H 2 = l at hln
  generalize hbb : dn x2 % H 0 = b at hbn
  generalize hpp : dn x3 % 12 = p at hpn
  have hm1 : ∀ u, MR H B (up I 186 35 u) := fun u => MR_off hm (by omega)
  have hm3 : MR H B (up (up (up I 186 35 x1) 186 35 x2) 186 35 x3) := MR_off (MR_off (MR_off hm (by omega)) (by omega)) (by omega)
  have hlt : lwS H w (x, B) = (x3, lwB H w l b p B (lg H l)) := by simp only [lwS, hx1, hx2, hx3, hll, hbb, hpp]
  rw [hlt]
  obtain ⟨J, e, g1, g2⟩ := m_drawsForL (L := L) (r := r) hN hO hm3 hw hln hbn hpn
  unfold fX11_drawsFor
  refine ⟨J, ?_, g1, ((FrE_up.tr FrE_up).tr FrE_up).tr g2.e, ?_⟩
  · simp (disch := first | assumption | omega | rfl) only [i_rem, i_pred, i_addn1, i_lit, i_n1, i_add, i_mul, i_sub, i_le, i_lt, i_eq, i_ne1, n1_ne, n1_lt, n1_le, i_lt1, i_le1, bd_s, nar_bi, nar_0, nar_1, if_pos, if_neg, ↓reduceIte, reduceCtorEq, eq_self, if_true, if_false, not_true_eq_false, not_false_eq_true, mo_k, mo_fI, mo_fL, mo_pI, mo_pL, mo_z0, mo_z1, mo_fR1, mo1_a, mo1_t, mo1_n, mo_fR14, mo14_a, mo14_t, mo14_n, mo_fR15, mo15_a, mo15_t, mo15_n, mo_fR16, mo16_a, mo16_t, mo16_n, mo_fR17, mo17_a, mo17_t, mo17_n, mo_fR18, mo18_a, mo18_t, mo18_n, mo_fR19, mo19_a, mo19_t, mo19_n, mo_fR20, mo20_a, mo20_t, mo20_n, mo_fR21, mo21_a, mo21_t, mo21_n, mo_fR22, mo22_a, mo22_t, mo22_n, mo_fR25, mo25_a, mo25_t, mo25_n, mo_fR26, mo26_a, mo26_t, mo26_n, mo_fR28, mo28_a, mo28_t, mo28_n, mo_fR29, mo29_a, mo29_t, mo29_n, mo_fR30, mo30_a, mo30_t, mo30_n, mo_fR33, mo33_a, mo33_t, mo33_n, mo_fR36, mo36_a, mo36_t, mo36_n, mo_fR37, mo37_a, mo37_t, mo37_n, mo_fR40, mo40_a, mo40_t, mo40_n, m_nl hm, m_nb (hm1 _), m_draw, hx, hx1, up_at, hx2, hx3, hll, hbb, hpp, e]
  · rw [g2.1 186 (by omega)]; simp (disch := omega) only [up_at, up_off, upL_at, upL_off, if_pos, if_neg, if_true, true_or, or_true, true_and, and_true]
end
