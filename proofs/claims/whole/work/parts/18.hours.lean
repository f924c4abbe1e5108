/-- a stretch of a row, all of one value -/
def fi (I : Nat → Nat → Int32) (q lo hi : Nat) (v : Int32) : Nat → Nat → Int32 := fun a k => if a = q ∧ lo ≤ k ∧ k < hi then v else I a k
theorem fi_off {I : Nat → Nat → Int32} {q lo hi a k : Nat} {v : Int32} (h : a ≠ q) : fi I q lo hi v a k = I a k := by rw [fi, if_neg (fun z => h z.1)]
theorem fi_row {I : Nat → Nat → Int32} {q lo hi a : Nat} {v : Int32} (h : a ≠ q) : fi I q lo hi v a = I a := by funext k; exact fi_off h
theorem fi_in {I : Nat → Nat → Int32} {q lo hi k : Nat} {v : Int32} (h : lo ≤ k ∧ k < hi) : fi I q lo hi v q k = v := by rw [fi, if_pos ⟨rfl, h⟩]
theorem fi_out {I : Nat → Nat → Int32} {q lo hi k : Nat} {v : Int32} (h : ¬ (lo ≤ k ∧ k < hi)) : fi I q lo hi v q k = I q k := by rw [fi, if_neg (fun z => h z.2)]
theorem fi_up {I : Nat → Nat → Int32} {q lo hi : Nat} {v : Int32} (h : lo ≤ hi) : up (fi I q lo hi v) q hi v = fi I q lo (hi + 1) v := by
  funext a k
  simp only [up, fi]
  by_cases h1 : a = q
  · by_cases h2 : k = hi
    · simp [h1, h2, h]
    · by_cases h3 : lo ≤ k ∧ k < hi
      · simp [h1, h2, h3]; omega
      · have : ¬ (lo ≤ k ∧ k < hi + 1) := by omega
        simp [h1, h2, h3, this]
  · simp [h1]
theorem fi_0 {I : Nat → Nat → Int32} {q lo : Nat} {v : Int32} : fi I q lo lo v = I := by
  funext a k
  simp only [fi]
  rw [if_neg]; omega
section
variable {H : Nat → Nat} {B : Nat → Int32} {I : Nat → Nat → Int32} {L : Nat → Nat → Int64} {r : Bool} {N a : Nat}
theorem j_fill {q n : Nat} {v : Int32} (hN : n < N) (hn3 : n < 2147483648) (hn : nA (mk I L r) q = some (i32 n)) (ht : ∀ J k, k < n → tI (mk J L r) q (i32 k) v = some (mk (up J q k v) L r)) : fJ7_fill_53178 N q v (mk I L r) = some ((), mk (fi I q 0 n v) L r) := by
  unfold fJ7_fill_53178
  simp (disch := first | assumption | omega | rfl) only [bd_s, hn, i_lit]
  obtain ⟨s, e, h⟩ := lp_st (F := fun m u M => fJ7_fill_53178_L5 N q v (i32 n) m u M) (m := n) (fun k M => M = mk (fi I q 0 k v) L r) (fun M => M) (fun m k M hk hM => by
    subst hM
    refine ⟨_, ?_, rfl⟩
    have := ht (fi I q 0 k v) k hk
    simp (disch := first | assumption | omega | rfl) only [i_rem, i_pred, i_addn1, i_lit, i_n1, i_add, i_mul, i_sub, i_le, i_lt, i_eq, i_ne1, n1_ne, n1_lt, n1_le, i_lt1, i_le1, bd_s, nar_bi, nar_0, nar_1, if_pos, if_neg, ↓reduceIte, reduceCtorEq, eq_self, if_true, if_false, not_true_eq_false, not_false_eq_true, fJ7_fill_53178_L5, ht, fi_up]) (fun m M hM => by
    simp (disch := first | assumption | omega | rfl) only [i_rem, i_pred, i_addn1, i_lit, i_n1, i_add, i_mul, i_sub, i_le, i_lt, i_eq, i_ne1, n1_ne, n1_lt, n1_le, i_lt1, i_le1, bd_s, nar_bi, nar_0, nar_1, if_pos, if_neg, ↓reduceIte, reduceCtorEq, eq_self, if_true, if_false, not_true_eq_false, not_false_eq_true, fJ7_fill_53178_L5]) hN (s := mk I L r) (by rw [fi_0])
  rw [e, h]; rfl
theorem j_fillR {q n lo hi : Nat} {v : Int32} (hN : n < N) (hn3 : n < 2147483648) (h1 : lo ≤ hi) (h2 : hi ≤ n) (hn : nA (mk I L r) q = some (i32 n)) (ht : ∀ J k, k < n → tI (mk J L r) q (i32 k) v = some (mk (up J q k v) L r)) : fJ7_fill_fda19 N q (i32 lo) (i32 hi) v (mk I L r) = some ((), mk (fi I q lo hi v) L r) := by
  unfold fJ7_fill_fda19
  simp (disch := first | assumption | omega | rfl) only [i_rem, i_pred, i_addn1, i_lit, i_n1, i_add, i_mul, i_sub, i_le, i_lt, i_eq, i_ne1, n1_ne, n1_lt, n1_le, i_lt1, i_le1, bd_s, nar_bi, nar_0, nar_1, if_pos, if_neg, ↓reduceIte, reduceCtorEq, eq_self, if_true, if_false, not_true_eq_false, not_false_eq_true, hn, fJ7_rangeCheck_23922]
  obtain ⟨s, e, h⟩ := lp_st (F := fun m u M => fJ7_fill_fda19_L10 N q (i32 hi) v m (i32 lo + u) M) (m := hi - lo) (fun k M => M = mk (fi I q lo (lo + k) v) L r) (fun M => M) (fun m k M hk hM => by
    subst hM
    refine ⟨_, ?_, rfl⟩
    simp (disch := first | assumption | omega | rfl) only [i_rem, i_pred, i_addn1, i_lit, i_n1, i_add, i_mul, i_sub, i_le, i_lt, i_eq, i_ne1, n1_ne, n1_lt, n1_le, i_lt1, i_le1, bd_s, nar_bi, nar_0, nar_1, if_pos, if_neg, ↓reduceIte, reduceCtorEq, eq_self, if_true, if_false, not_true_eq_false, not_false_eq_true, fJ7_fill_fda19_L10, ht, fi_up, Nat.add_assoc]) (fun m M hM => by
    simp (disch := first | assumption | omega | rfl) only [i_rem, i_pred, i_addn1, i_lit, i_n1, i_add, i_mul, i_sub, i_le, i_lt, i_eq, i_ne1, n1_ne, n1_lt, n1_le, i_lt1, i_le1, bd_s, nar_bi, nar_0, nar_1, if_pos, if_neg, ↓reduceIte, reduceCtorEq, eq_self, if_true, if_false, not_true_eq_false, not_false_eq_true, fJ7_fill_fda19_L10]) (n := N) (by omega) (s := mk I L r) (by rw [Nat.add_zero, fi_0])
  rw [i_add, Nat.add_zero, show lo + (hi - lo) = hi by omega] at *
  rw [e, h]; rfl
theorem c_wash (hN : 1200 < N) (hO : hOk H) (ha : isBe a = true) (hb : BR a B I) {b : Nat} (hbb : b < H 0) : ∃ J, fX0_wash N a (i32 b) (mk I L r) = some ((), mk J L r) ∧ BR a (wsh B b) J ∧ Fr a I J := by
  have o0 := hO.1; have o1 := hO.2.1; have o2 := hO.2.2.1; have o3 := hO.2.2.2.1; have o4 := hO.2.2.2.2.1; have o5 := hO.2.2.2.2.2.1
  have f1 : ∀ (J : Nat → Nat → Int32), fJ7_fill_fda19 N (a + 1) (i32 (12 * b)) (i32 (12 * b + 12)) n1 (mk J L r) = some ((), mk (fi J (a + 1) (12 * b) (12 * b + 12) n1) L r) := fun J => j_fillR (n := 72) (by omega) (by omega) (by omega) (by omega) (be1_n ha) (fun J k hk => be1_t ha hk)
  have f2 : ∀ (J : Nat → Nat → Int32), fJ7_fill_fda19 N (a + 2) (i32 (12 * b)) (i32 (12 * b + 12)) n1 (mk J L r) = some ((), mk (fi J (a + 2) (12 * b) (12 * b + 12) n1) L r) := fun J => j_fillR (n := 72) (by omega) (by omega) (by omega) (by omega) (be2_n ha) (fun J k hk => be2_t ha hk)
  unfold fX0_wash
  simp (disch := first | assumption | omega | rfl) only [i_rem, i_pred, i_addn1, i_lit, i_n1, i_add, i_mul, i_sub, i_le, i_lt, i_eq, i_ne1, n1_ne, n1_lt, n1_le, i_lt1, i_le1, bd_s, nar_bi, nar_0, nar_1, if_pos, if_neg, ↓reduceIte, reduceCtorEq, eq_self, if_true, if_false, not_true_eq_false, not_false_eq_true, be_k, be_fI, be_fL, be_pI, be_pL, be_z0, be_z1, be_fR0, be_fR1, be1_a, be1_t, be1_n, be_fR2, be2_a, be2_t, be2_n, be_fR3, be3_a, be3_t, be3_n, be_fR4, be4_a, be4_t, be4_n, be_fR5, be5_a, be5_t, be5_n, be_fR6, be6_a, be6_t, be6_n, be_fR7, be7_a, be7_t, be7_n, c_placeIndex, Nat.add_zero, f1, f2, up_off, fi_off, be_wa hb]
  have c0 : cn (wsh B b) b = 0 := by
    rw [cn_cnt]
    have : cnt (fun p => !decide (wsh B b (20 + (12 * b + p)) = n1)) (0 + 12) = cnt (fun p => !decide (wsh B b (20 + (12 * b + p)) = n1)) 0 := cnt_add 12 (fun k h1 h2 => by
      have : wsh B b (20 + (12 * b + k)) = n1 := by rw [wsh, if_pos (Or.inl (by omega))]
      simp [this])
    exact this
  refine ⟨_, rfl, ⟨⟨?_, ?_, ?_, ?_⟩, ?_, ?_, ?_, ?_, ?_, ?_⟩, ?_⟩
  · simp (disch := omega) only [up_at, up_off, upL_at, upL_off, if_pos, if_neg, if_true, true_or, or_true, true_and, and_true, fi_off, be_hr hb, wsh]
  · simp (disch := omega) only [up_at, up_off, upL_at, upL_off, if_pos, if_neg, if_true, true_or, or_true, true_and, and_true, fi_off, be_wn hb, wsh]
  · simp (disch := omega) only [up_at, up_off, upL_at, upL_off, if_pos, if_neg, if_true, true_or, or_true, true_and, and_true, fi_off, be_sk hb, wsh]
  · simp (disch := omega) only [up_at, up_off, upL_at, upL_off, if_pos, if_neg, if_true, true_or, or_true, true_and, and_true, fi_off, be_lp hb, wsh]
  · intro l hl
    simp (disch := omega) only [up_at, up_off, upL_at, upL_off, if_pos, if_neg, if_true, true_or, or_true, true_and, and_true, fi_off, be_ag hb, wsh]
  · intro w' hl
    simp (disch := omega) only [up_at, up_off, upL_at, upL_off, if_pos, if_neg, if_true, true_or, or_true, true_and, and_true, fi_off, be_wr hb, wsh]
  · intro l hl
    by_cases h : l = b
    · subst h; simp (disch := omega) only [up_at, up_off, upL_at, upL_off, if_pos, if_neg, if_true, true_or, or_true, true_and, and_true, fi_off, be_wa hb, wsh]
    · simp (disch := omega) only [up_at, up_off, upL_at, upL_off, if_pos, if_neg, if_true, true_or, or_true, true_and, and_true, fi_off, be_wa hb, wsh]
  · intro i hi
    by_cases h : 12 * b ≤ i ∧ i < 12 * b + 12
    · simp (disch := omega) only [up_at, up_off, upL_at, upL_off, if_pos, if_neg, if_true, true_or, or_true, true_and, and_true, fi_off, fi_in, wsh]
    · simp (disch := omega) only [up_at, up_off, upL_at, upL_off, if_pos, if_neg, if_true, true_or, or_true, true_and, and_true, fi_off, fi_out, be_mk hb, wsh]
  · intro i hi
    by_cases h : 12 * b ≤ i ∧ i < 12 * b + 12
    · simp (disch := omega) only [up_at, up_off, upL_at, upL_off, if_pos, if_neg, if_true, true_or, or_true, true_and, and_true, fi_off, fi_in, wsh]
    · simp (disch := omega) only [up_at, up_off, upL_at, upL_off, if_pos, if_neg, if_true, true_or, or_true, true_and, and_true, fi_off, fi_out, be_hd hb, wsh]
  · intro b' hb'
    by_cases h : b' = b
    · subst h
      simp (disch := omega) only [up_at, up_off, upL_at, upL_off, if_pos, if_neg, if_true, true_or, or_true, true_and, and_true, c0]
    · rw [cn_off (B := B) (C := wsh B b) (b := b') (fun q hq => by simp (disch := omega) only [up_at, up_off, upL_at, upL_off, if_pos, if_neg, if_true, true_or, or_true, true_and, and_true, wsh])]
      simp (disch := omega) only [up_at, up_off, upL_at, upL_off, if_pos, if_neg, if_true, true_or, or_true, true_and, and_true, fi_off, be_cn hb]
  · intro q hq
    simp (disch := omega) only [up_row, fi_row]
theorem c_washBands (hN : 1200 < N) (hO : hOk H) (hs : RS 4 H I) (ha : isBe a = true) (hb : BR a B I) {t : Int32} : ∃ J, fX0_washBands N a t (mk I L r) = some ((), mk J L r) ∧ BR a (wshs H t B (H 0)) J ∧ Fr a I J := by
  have o0 := hO.1; have o1 := hO.2.1; have o2 := hO.2.2.1; have o3 := hO.2.2.2.1; have o4 := hO.2.2.2.2.1; have o5 := hO.2.2.2.2.2.1
  unfold fX0_washBands
  simp only [i_lit]
  obtain ⟨M, e, J, rfl, h1, h2⟩ := lp_st (F := fun m u M => fX0_washBands_L2 N a t m u M) (m := H 0) (fun k M => ∃ J, M = mk J L r ∧ BR a (wshs H t B k) J ∧ Fr a I J) (fun M => M) (fun m k M hk hM => by
    obtain ⟨J, rfl, h1, h2⟩ := hM
    have hs' := RS_fr hs ha h2
    by_cases hc : t < i32 (H (5 + k))
    · refine ⟨mk J L r, ?_, J, rfl, ?_, h2⟩
      · simp (disch := first | assumption | omega | rfl) only [i_rem, i_pred, i_addn1, i_lit, i_n1, i_add, i_mul, i_sub, i_le, i_lt, i_eq, i_ne1, n1_ne, n1_lt, n1_le, i_lt1, i_le1, bd_s, nar_bi, nar_0, nar_1, if_pos, if_neg, ↓reduceIte, reduceCtorEq, eq_self, if_true, if_false, not_true_eq_false, not_false_eq_true, be_k, be_fI, be_fL, be_pI, be_pL, be_z0, be_z1, be_fR0, be_fR1, be1_a, be1_t, be1_n, be_fR2, be2_a, be2_t, be2_n, be_fR3, be3_a, be3_t, be3_n, be_fR4, be4_a, be4_t, be4_n, be_fR5, be5_a, be5_t, be5_n, be_fR6, be6_a, be6_t, be6_n, be_fR7, be7_a, be7_t, be7_n, s4_k, s4_fI, s4_fL, s4_pI, s4_pL, s4_z0, s4_z1, s4_fR1, s41_a, s41_t, s41_n, s4_fR2, s42_a, s42_t, s42_n, s4_fR3, s43_a, s43_t, s43_n, s4_fR5, s45_a, s45_t, s45_n, s4_fR7, s47_a, s47_t, s47_n, s4_fR8, s48_a, s48_t, s48_n, s4_fR10, s410_a, s410_t, s410_n, s4_fR11, s411_a, s411_t, s411_n, s4_fR12, s412_a, s412_t, s412_n, s4_fR13, s413_a, s413_t, s413_n, fX0_washBands_L2, s4_nb hs', s4_ht hs', hc]
      · rw [wshs, fo, if_pos hc]; exact h1
    · obtain ⟨K, e, h3, h4⟩ := c_wash (L := L) (r := r) hN hO ha h1 hk
      refine ⟨mk K L r, ?_, K, rfl, ?_, h2.tr h4⟩
      · simp (disch := first | assumption | omega | rfl) only [i_rem, i_pred, i_addn1, i_lit, i_n1, i_add, i_mul, i_sub, i_le, i_lt, i_eq, i_ne1, n1_ne, n1_lt, n1_le, i_lt1, i_le1, bd_s, nar_bi, nar_0, nar_1, if_pos, if_neg, ↓reduceIte, reduceCtorEq, eq_self, if_true, if_false, not_true_eq_false, not_false_eq_true, be_k, be_fI, be_fL, be_pI, be_pL, be_z0, be_z1, be_fR0, be_fR1, be1_a, be1_t, be1_n, be_fR2, be2_a, be2_t, be2_n, be_fR3, be3_a, be3_t, be3_n, be_fR4, be4_a, be4_t, be4_n, be_fR5, be5_a, be5_t, be5_n, be_fR6, be6_a, be6_t, be6_n, be_fR7, be7_a, be7_t, be7_n, s4_k, s4_fI, s4_fL, s4_pI, s4_pL, s4_z0, s4_z1, s4_fR1, s41_a, s41_t, s41_n, s4_fR2, s42_a, s42_t, s42_n, s4_fR3, s43_a, s43_t, s43_n, s4_fR5, s45_a, s45_t, s45_n, s4_fR7, s47_a, s47_t, s47_n, s4_fR8, s48_a, s48_t, s48_n, s4_fR10, s410_a, s410_t, s410_n, s4_fR11, s411_a, s411_t, s411_n, s4_fR12, s412_a, s412_t, s412_n, s4_fR13, s413_a, s413_t, s413_n, fX0_washBands_L2, s4_nb hs', s4_ht hs', hc, e]
      · rw [wshs, fo, if_neg hc]; exact h3) (fun m M hM => by
    obtain ⟨J, rfl, h1, h2⟩ := hM
    have hs' := RS_fr hs ha h2
    simp (disch := first | assumption | omega | rfl) only [i_rem, i_pred, i_addn1, i_lit, i_n1, i_add, i_mul, i_sub, i_le, i_lt, i_eq, i_ne1, n1_ne, n1_lt, n1_le, i_lt1, i_le1, bd_s, nar_bi, nar_0, nar_1, if_pos, if_neg, ↓reduceIte, reduceCtorEq, eq_self, if_true, if_false, not_true_eq_false, not_false_eq_true, be_k, be_fI, be_fL, be_pI, be_pL, be_z0, be_z1, be_fR0, be_fR1, be1_a, be1_t, be1_n, be_fR2, be2_a, be2_t, be2_n, be_fR3, be3_a, be3_t, be3_n, be_fR4, be4_a, be4_t, be4_n, be_fR5, be5_a, be5_t, be5_n, be_fR6, be6_a, be6_t, be6_n, be_fR7, be7_a, be7_t, be7_n, s4_k, s4_fI, s4_fL, s4_pI, s4_pL, s4_z0, s4_z1, s4_fR1, s41_a, s41_t, s41_n, s4_fR2, s42_a, s42_t, s42_n, s4_fR3, s43_a, s43_t, s43_n, s4_fR5, s45_a, s45_t, s45_n, s4_fR7, s47_a, s47_t, s47_n, s4_fR8, s48_a, s48_t, s48_n, s4_fR10, s410_a, s410_t, s410_n, s4_fR11, s411_a, s411_t, s411_n, s4_fR12, s412_a, s412_t, s412_n, s4_fR13, s413_a, s413_t, s413_n, fX0_washBands_L2, s4_nb hs']) (n := N) (by omega) (s := mk I L r) ⟨I, rfl, hb, Fr.rf⟩
  rw [e]; exact ⟨J, rfl, h1, h2⟩
/-- one value of what is so is set anew, but no sign -/
theorem cn_b1 {B : Nat → Int32} {k b : Nat} {v : Int32} (h : k < 20 ∨ 92 ≤ k) (hb : b < 6) : cn (b1 B k v) b = cn B b := cn_off (fun p hp => by rw [b1, if_neg]; omega)
theorem BR_ag {l : Nat} {v : Int32} (hb : BR a B I) (hl : l < 6) : BR a (b1 B (4 + l) v) (up I (a + 5) l v) := by
  refine ⟨⟨?_, ?_, ?_, ?_⟩, ?_, ?_, ?_, ?_, ?_, ?_⟩
  · simp (disch := omega) only [up_at, up_off, upL_at, upL_off, if_pos, if_neg, if_true, true_or, or_true, true_and, and_true, be_hr hb, b1]
  · simp (disch := omega) only [up_at, up_off, upL_at, upL_off, if_pos, if_neg, if_true, true_or, or_true, true_and, and_true, be_wn hb, b1]
  · simp (disch := omega) only [up_at, up_off, upL_at, upL_off, if_pos, if_neg, if_true, true_or, or_true, true_and, and_true, be_sk hb, b1]
  · simp (disch := omega) only [up_at, up_off, upL_at, upL_off, if_pos, if_neg, if_true, true_or, or_true, true_and, and_true, be_lp hb, b1]
  · intro k hk
    by_cases h : k = l
    · subst h; simp (disch := omega) only [up_at, up_off, upL_at, upL_off, if_pos, if_neg, if_true, true_or, or_true, true_and, and_true, b1]
    · simp (disch := omega) only [up_at, up_off, upL_at, upL_off, if_pos, if_neg, if_true, true_or, or_true, true_and, and_true, be_ag hb, b1]
  · intro k hk; simp (disch := omega) only [up_at, up_off, upL_at, upL_off, if_pos, if_neg, if_true, true_or, or_true, true_and, and_true, be_wr hb, b1]
  · intro k hk; simp (disch := omega) only [up_at, up_off, upL_at, upL_off, if_pos, if_neg, if_true, true_or, or_true, true_and, and_true, be_wa hb, b1]
  · intro k hk; simp (disch := omega) only [up_at, up_off, upL_at, upL_off, if_pos, if_neg, if_true, true_or, or_true, true_and, and_true, be_mk hb, b1]
  · intro k hk; simp (disch := omega) only [up_at, up_off, upL_at, upL_off, if_pos, if_neg, if_true, true_or, or_true, true_and, and_true, be_hd hb, b1]
  · intro k hk; rw [cn_b1 (by omega) hk]; simp (disch := omega) only [up_at, up_off, upL_at, upL_off, if_pos, if_neg, if_true, true_or, or_true, true_and, and_true, be_cn hb]
theorem BR_lp {v : Int32} (hb : BR a B I) : BR a (b1 B 3 v) (up I a 8 v) := by
  refine ⟨⟨?_, ?_, ?_, ?_⟩, ?_, ?_, ?_, ?_, ?_, ?_⟩
  · simp (disch := omega) only [up_at, up_off, upL_at, upL_off, if_pos, if_neg, if_true, true_or, or_true, true_and, and_true, be_hr hb, b1]
  · simp (disch := omega) only [up_at, up_off, upL_at, upL_off, if_pos, if_neg, if_true, true_or, or_true, true_and, and_true, be_wn hb, b1]
  · simp (disch := omega) only [up_at, up_off, upL_at, upL_off, if_pos, if_neg, if_true, true_or, or_true, true_and, and_true, be_sk hb, b1]
  · simp (disch := omega) only [up_at, up_off, upL_at, upL_off, if_pos, if_neg, if_true, true_or, or_true, true_and, and_true, be_lp hb, b1]
  · intro k hk; simp (disch := omega) only [up_at, up_off, upL_at, upL_off, if_pos, if_neg, if_true, true_or, or_true, true_and, and_true, be_ag hb, b1]
  · intro k hk; simp (disch := omega) only [up_at, up_off, upL_at, upL_off, if_pos, if_neg, if_true, true_or, or_true, true_and, and_true, be_wr hb, b1]
  · intro k hk; simp (disch := omega) only [up_at, up_off, upL_at, upL_off, if_pos, if_neg, if_true, true_or, or_true, true_and, and_true, be_wa hb, b1]
  · intro k hk; simp (disch := omega) only [up_at, up_off, upL_at, upL_off, if_pos, if_neg, if_true, true_or, or_true, true_and, and_true, be_mk hb, b1]
  · intro k hk; simp (disch := omega) only [up_at, up_off, upL_at, upL_off, if_pos, if_neg, if_true, true_or, or_true, true_and, and_true, be_hd hb, b1]
  · intro k hk; rw [cn_b1 (by omega) hk]; simp (disch := omega) only [up_at, up_off, upL_at, upL_off, if_pos, if_neg, if_true, true_or, or_true, true_and, and_true, be_cn hb]
theorem oi_n1 {o : Option Nat} (h : ∀ k, o = some k → k < 1000) : oi o = n1 ↔ o = none := by
  cases o with
  | none => simp [oi]
  | some k => simp only [oi]; rw [i_ne1 (by have := h k rfl; omega)]; simp
theorem fbO_lt {l k : Nat} (h : fbO H B l = some k) : k < H 0 := (fd_some.mp h).1
theorem c_older (hN : 1200 < N) (hO : hOk H) (hs : RS 4 H I) (ha : isBe a = true) (hb : BR a B I) {l : Nat} (hl : l < H 2) (h0 : lpd B l = false) : ∃ J, fX0_makeOlder N a (i32 l) (mk I L r) = some ((), mk J L r) ∧ BR a (old H B l) J ∧ Fr a I J := by
  have o0 := hO.1; have o1 := hO.2.1; have o2 := hO.2.2.1; have o3 := hO.2.2.2.1; have o4 := hO.2.2.2.2.1; have o5 := hO.2.2.2.2.2.1
  unfold fX0_makeOlder
  simp (disch := first | assumption | omega | rfl) only [i_rem, i_pred, i_addn1, i_lit, i_n1, i_add, i_mul, i_sub, i_le, i_lt, i_eq, i_ne1, n1_ne, n1_lt, n1_le, i_lt1, i_le1, bd_s, nar_bi, nar_0, nar_1, if_pos, if_neg, ↓reduceIte, reduceCtorEq, eq_self, if_true, if_false, not_true_eq_false, not_false_eq_true, be_k, be_fI, be_fL, be_pI, be_pL, be_z0, be_z1, be_fR0, be_fR1, be1_a, be1_t, be1_n, be_fR2, be2_a, be2_t, be2_n, be_fR3, be3_a, be3_t, be3_n, be_fR4, be4_a, be4_t, be4_n, be_fR5, be5_a, be5_t, be5_n, be_fR6, be6_a, be6_t, be6_n, be_fR7, be7_a, be7_t, be7_n, s4_k, s4_fI, s4_fL, s4_pI, s4_pL, s4_z0, s4_z1, s4_fR1, s41_a, s41_t, s41_n, s4_fR2, s42_a, s42_t, s42_n, s4_fR3, s43_a, s43_t, s43_n, s4_fR5, s45_a, s45_t, s45_n, s4_fR7, s47_a, s47_t, s47_n, s4_fR8, s48_a, s48_t, s48_n, s4_fR10, s410_a, s410_t, s410_n, s4_fR11, s411_a, s411_t, s411_n, s4_fR12, s412_a, s412_t, s412_n, s4_fR13, s413_a, s413_t, s413_n, c_firstBandOf hN hO hs ha hb]
  by_cases h1 : fbO H B l = none
  · rw [h1]
    simp only [oi, ↓reduceIte]
    simp (disch := first | assumption | omega | rfl) only [i_rem, i_pred, i_addn1, i_lit, i_n1, i_add, i_mul, i_sub, i_le, i_lt, i_eq, i_ne1, n1_ne, n1_lt, n1_le, i_lt1, i_le1, bd_s, nar_bi, nar_0, nar_1, if_pos, if_neg, ↓reduceIte, reduceCtorEq, eq_self, if_true, if_false, not_true_eq_false, not_false_eq_true, be_k, be_fI, be_fL, be_pI, be_pL, be_z0, be_z1, be_fR0, be_fR1, be1_a, be1_t, be1_n, be_fR2, be2_a, be2_t, be2_n, be_fR3, be3_a, be3_t, be3_n, be_fR4, be4_a, be4_t, be4_n, be_fR5, be5_a, be5_t, be5_n, be_fR6, be6_a, be6_t, be6_n, be_fR7, be7_a, be7_t, be7_n, s4_k, s4_fI, s4_fL, s4_pI, s4_pL, s4_z0, s4_z1, s4_fR1, s41_a, s41_t, s41_n, s4_fR2, s42_a, s42_t, s42_n, s4_fR3, s43_a, s43_t, s43_n, s4_fR5, s45_a, s45_t, s45_n, s4_fR7, s47_a, s47_t, s47_n, s4_fR8, s48_a, s48_t, s48_n, s4_fR10, s410_a, s410_t, s410_n, s4_fR11, s411_a, s411_t, s411_n, s4_fR12, s412_a, s412_t, s412_n, s4_fR13, s413_a, s413_t, s413_n, be_ag hb, up_at, up_off, s4_la hs, be_lp hb]
    by_cases h2 : B (4 + l) + i32 1 < i32 (H 4)
    · rw [if_pos h2]
      refine ⟨_, rfl, ?_, ?_⟩
      · rw [old, h0, if_neg (by simp), if_pos h1, if_pos h2]; exact BR_ag hb (by omega)
      · intro q hq; simp (disch := omega) only [up_row]
    · rw [if_neg h2]
      refine ⟨_, rfl, ?_, ?_⟩
      · rw [old, h0, if_neg (by simp), if_pos h1, if_neg h2]; exact BR_lp (BR_ag hb (by omega))
      · intro q hq; simp (disch := omega) only [up_row]
  · have h3 : ¬ oi (fbO H B l) = n1 := fun z => h1 ((oi_n1 (fun k hk => by have := fbO_lt hk; omega)).mp z)
    rw [if_neg h3]
    refine ⟨_, rfl, ?_, ?_⟩
    · rw [old, h0, if_neg (by simp), if_neg h1]; exact BR_ag hb (by omega)
    · intro q hq; simp (disch := omega) only [up_row]
theorem c_olds (hN : 1200 < N) (hO : hOk H) (hs : RS 4 H I) (ha : isBe a = true) (hb : BR a B I) {u v : Int32} : ∃ J, fX0_passHours_L24 N a u v N (i32 0) (mk I L r) = some (mk J L r) ∧ BR a (olds H B (H 2)) J ∧ Fr a I J := by
  have o0 := hO.1; have o1 := hO.2.1; have o2 := hO.2.2.1; have o3 := hO.2.2.2.1; have o4 := hO.2.2.2.2.1; have o5 := hO.2.2.2.2.2.1
  obtain ⟨M, e, J, rfl, h1, h2⟩ := lp_st (F := fun m z M => fX0_passHours_L24 N a u v m z M) (m := H 2) (fun k M => ∃ J, M = mk J L r ∧ BR a (olds H B k) J ∧ Fr a I J) (fun M => M) (fun m k M hk hM => by
    obtain ⟨J, rfl, h1, h2⟩ := hM
    have hs' := RS_fr hs ha h2
    cases hc : lpd (olds H B k) k with
    | true =>
      refine ⟨mk J L r, ?_, J, rfl, ?_, h2⟩
      · simp (disch := first | assumption | omega | rfl) only [i_rem, i_pred, i_addn1, i_lit, i_n1, i_add, i_mul, i_sub, i_le, i_lt, i_eq, i_ne1, n1_ne, n1_lt, n1_le, i_lt1, i_le1, bd_s, nar_bi, nar_0, nar_1, if_pos, if_neg, ↓reduceIte, reduceCtorEq, eq_self, if_true, if_false, not_true_eq_false, not_false_eq_true, be_k, be_fI, be_fL, be_pI, be_pL, be_z0, be_z1, be_fR0, be_fR1, be1_a, be1_t, be1_n, be_fR2, be2_a, be2_t, be2_n, be_fR3, be3_a, be3_t, be3_n, be_fR4, be4_a, be4_t, be4_n, be_fR5, be5_a, be5_t, be5_n, be_fR6, be6_a, be6_t, be6_n, be_fR7, be7_a, be7_t, be7_n, s4_k, s4_fI, s4_fL, s4_pI, s4_pL, s4_z0, s4_z1, s4_fR1, s41_a, s41_t, s41_n, s4_fR2, s42_a, s42_t, s42_n, s4_fR3, s43_a, s43_t, s43_n, s4_fR5, s45_a, s45_t, s45_n, s4_fR7, s47_a, s47_t, s47_n, s4_fR8, s48_a, s48_t, s48_n, s4_fR10, s410_a, s410_t, s410_n, s4_fR11, s411_a, s411_t, s411_n, s4_fR12, s412_a, s412_t, s412_n, s4_fR13, s413_a, s413_t, s413_n, fX0_passHours_L24, s4_nl hs', c_hasLapsed ha h1, hc, bi_z]
      · rw [olds, fo, old]; rw [olds] at hc h1; rw [hc]; exact h1
    | false =>
      obtain ⟨K, e, h3, h4⟩ := c_older (L := L) (r := r) hN hO hs' ha h1 hk hc
      refine ⟨mk K L r, ?_, K, rfl, h3, h2.tr h4⟩
      simp (disch := first | assumption | omega | rfl) only [i_rem, i_pred, i_addn1, i_lit, i_n1, i_add, i_mul, i_sub, i_le, i_lt, i_eq, i_ne1, n1_ne, n1_lt, n1_le, i_lt1, i_le1, bd_s, nar_bi, nar_0, nar_1, if_pos, if_neg, ↓reduceIte, reduceCtorEq, eq_self, if_true, if_false, not_true_eq_false, not_false_eq_true, be_k, be_fI, be_fL, be_pI, be_pL, be_z0, be_z1, be_fR0, be_fR1, be1_a, be1_t, be1_n, be_fR2, be2_a, be2_t, be2_n, be_fR3, be3_a, be3_t, be3_n, be_fR4, be4_a, be4_t, be4_n, be_fR5, be5_a, be5_t, be5_n, be_fR6, be6_a, be6_t, be6_n, be_fR7, be7_a, be7_t, be7_n, s4_k, s4_fI, s4_fL, s4_pI, s4_pL, s4_z0, s4_z1, s4_fR1, s41_a, s41_t, s41_n, s4_fR2, s42_a, s42_t, s42_n, s4_fR3, s43_a, s43_t, s43_n, s4_fR5, s45_a, s45_t, s45_n, s4_fR7, s47_a, s47_t, s47_n, s4_fR8, s48_a, s48_t, s48_n, s4_fR10, s410_a, s410_t, s410_n, s4_fR11, s411_a, s411_t, s411_n, s4_fR12, s412_a, s412_t, s412_n, s4_fR13, s413_a, s413_t, s413_n, fX0_passHours_L24, s4_nl hs', c_hasLapsed ha h1, hc, bi_z, e]) (fun m M hM => by
    obtain ⟨J, rfl, h1, h2⟩ := hM
    have hs' := RS_fr hs ha h2
    simp (disch := first | assumption | omega | rfl) only [i_rem, i_pred, i_addn1, i_lit, i_n1, i_add, i_mul, i_sub, i_le, i_lt, i_eq, i_ne1, n1_ne, n1_lt, n1_le, i_lt1, i_le1, bd_s, nar_bi, nar_0, nar_1, if_pos, if_neg, ↓reduceIte, reduceCtorEq, eq_self, if_true, if_false, not_true_eq_false, not_false_eq_true, be_k, be_fI, be_fL, be_pI, be_pL, be_z0, be_z1, be_fR0, be_fR1, be1_a, be1_t, be1_n, be_fR2, be2_a, be2_t, be2_n, be_fR3, be3_a, be3_t, be3_n, be_fR4, be4_a, be4_t, be4_n, be_fR5, be5_a, be5_t, be5_n, be_fR6, be6_a, be6_t, be6_n, be_fR7, be7_a, be7_t, be7_n, s4_k, s4_fI, s4_fL, s4_pI, s4_pL, s4_z0, s4_z1, s4_fR1, s41_a, s41_t, s41_n, s4_fR2, s42_a, s42_t, s42_n, s4_fR3, s43_a, s43_t, s43_n, s4_fR5, s45_a, s45_t, s45_n, s4_fR7, s47_a, s47_t, s47_n, s4_fR8, s48_a, s48_t, s48_n, s4_fR10, s410_a, s410_t, s410_n, s4_fR11, s411_a, s411_t, s411_n, s4_fR12, s412_a, s412_t, s412_n, s4_fR13, s413_a, s413_t, s413_n, fX0_passHours_L24, s4_nl hs']) (n := N) (by omega) (s := mk I L r) ⟨I, rfl, hb, Fr.rf⟩
  exact ⟨J, e, h1, h2⟩
end
